section
/-! the reference's parser: the acts' words out of their states -/
section DKEX
variable {S S1 S2 S3 S4 S5 : dg_S} {dp on om fx : Int32}
theorem HBM.mk {om' t : Int32} (f3 : S.1 0 45 = .int om) (e1 : S1 = dg_uf S 27 (upd (S.2.1 27) om.toNatClampNeg t)) (e2 : S2 = dg_uF S1 0 45 (.int om')) (h : om'.toInt = om.toInt + 1) : HBM S S2 t := by
  intro om2 q
  cases f3.symm.trans q
  exact ⟨by rw [dg_uF_f e2, dg_uf_at e1], om', dg_uF_at e2, h⟩
theorem PUM.mk {k dp' : Int32} (f1 : S.1 0 42 = .int dp) (f3 : S.1 0 45 = .int om) (e1 : S1 = dg_uf S 22 (upd (S.2.1 22) dp.toNatClampNeg k)) (e2 : S2 = dg_uf S1 23 (upd (S1.2.1 23) dp.toNatClampNeg 0)) (e3 : S3 = dg_uf S2 24 (upd (S2.2.1 24) dp.toNatClampNeg 1)) (e4 : S4 = dg_uf S3 26 (upd (S3.2.1 26) dp.toNatClampNeg om)) (e5 : S5 = dg_uF S4 0 42 (.int dp')) (h : dp'.toInt = dp.toInt + 1) : PUM S S5 k := by
  intro dp2 om2 q1 q2
  cases f1.symm.trans q1
  cases f3.symm.trans q2
  refine ⟨?_, ?_, ?_, ?_, dp', dg_uF_at e5, h⟩
  · rw [dg_uF_f e5, dg_uf_ne e4 (by decide), dg_uf_ne e3 (by decide), dg_uf_ne e2 (by decide), dg_uf_at e1]
  · rw [dg_uF_f e5, dg_uf_ne e4 (by decide), dg_uf_ne e3 (by decide), dg_uf_at e2, dg_uf_ne e1 (by decide)]
  · rw [dg_uF_f e5, dg_uf_ne e4 (by decide), dg_uf_at e3, dg_uf_ne e2 (by decide), dg_uf_ne e1 (by decide)]
  · rw [dg_uF_f e5, dg_uf_at e4, dg_uf_ne e3 (by decide), dg_uf_ne e2 (by decide), dg_uf_ne e1 (by decide)]
theorem FRM.mk {k on' : Int32} {WF : List (Nat × Nat)} (f2 : S.1 0 43 = .int on) (h7 : on.toInt ≠ 7) (e1 : S1 = dg_uF S 0 43 (.int on')) (hon : on'.toInt = on.toInt + 1) (m : dg_sm shM WF [] S1 S2) (w1 : (0, 42) ∉ WF) (w2 : (0, 45) ∉ WF) (w3 : (0, 43) ∉ WF) (p : PUM S2 S3 k) (m3 : dg_sm shM [(0, 42)] [22, 23, 24, 26] S2 S3) : FRM S S3 k := by
  have rr : ∀ q x, shM[q]? = some x → S2.2.1 q = S.2.1 q := fun q x hx => ((m.2 q x hx List.not_mem_nil).1).trans (dg_uF_f e1 q)
  refine ⟨fun dp om q1 q2 => ?_, fun on2 q => ?_⟩
  · obtain ⟨p1, p2, p3, p4, p5⟩ := p dp om (by rw [m.1 0 42 _ sM_0 w1, dg_uF_ne e1 (fun z => absurd z.2 (by decide))]; exact q1) (by rw [m.1 0 45 _ sM_0 w2, dg_uF_ne e1 (fun z => absurd z.2 (by decide))]; exact q2)
    rw [rr 22 _ sM_22] at p1
    rw [rr 23 _ sM_23] at p2
    rw [rr 24 _ sM_24] at p3
    rw [rr 26 _ sM_26] at p4
    exact ⟨p1, p2, p3, p4, p5⟩
  · cases f2.symm.trans q
    exact ⟨h7, on', by rw [m3.1 0 43 _ sM_0 (by decide), m.1 0 43 _ sM_0 w3]; exact dg_uF_at e1, hon⟩
theorem TOPM.l {b l : Int32} (f1 : S.1 0 42 = .int dp) (f3 : S.1 0 45 = .int om) (h : P1M S) (f2 : S.1 0 43 = .int on) (hf : fx.toInt = dp.toInt - 1) (b26 : S.2.1 26 fx.toNatClampNeg = b) (hb : om.toInt ≤ b.toInt) : TOPM S l := by
  intro dp2 om2 q1 q2
  cases f1.symm.trans q1
  cases f3.symm.trans q2
  have dd := PSM.dims h f1 f2 f3
  have ef : fx.toNatClampNeg = dp.toNatClampNeg - 1 := by rw [dk_clN, dk_clN]; omega
  obtain ⟨a1, a2, a3, a4, a5⟩ := h dp on om f1 f2 f3
  obtain ⟨b1, b2, b3, b4, b5⟩ := a1.top
  left
  rw [← ef, b26] at b2 ⊢
  have e2 := dk_clN om
  omega
theorem TOPM.r {t l g : Int32} (f1 : S.1 0 42 = .int dp) (f3 : S.1 0 45 = .int om) (hg : g.toInt = om.toInt - 1) (t27 : S.2.1 27 g.toNatClampNeg = t) (hr : dk_rk t.toInt < l.toInt) : TOPM S l := by
  intro dp2 om2 q1 q2
  cases f1.symm.trans q1
  cases f3.symm.trans q2
  have eg : g.toNatClampNeg = om.toNatClampNeg - 1 := by rw [dk_clN, dk_clN]; omega
  right
  rw [← eg, t27]
  exact hr
/-- what waits, by the flag that tells whether an operand stands -/
def POM (S : dg_S) : Prop := ∀ x : Int32, S.1 0 46 = .int x → PSM S x.toInt
theorem POM.of {r : Int32} (e : S1 = dg_uF S 0 46 (.int r)) (h1 : r.toInt = 1 → P1M S) (h0 : r.toInt = 0 → P0M S) (hr : 0 ≤ r.toInt ∧ r.toInt ≤ 1) : POM S1 := by
  have m : dg_sm shM [(0, 46)] [] S S1 := dg_sm.uF dg_sm.rf e sM_0 (by decide)
  intro x hx
  rw [dg_uF_at e] at hx
  cases hx
  by_cases z : r.toInt = 1
  · rw [z]
    exact PSM.keep (h1 z) m (by decide) (by decide) (by decide) (by decide) (by decide) (by decide) (by decide) (by decide) (by decide) (by decide) (by decide) (by decide) (by decide) (by decide) (by decide)
  · have z0 : r.toInt = 0 := by omega
    rw [z0]
    exact PSM.keep (h0 z0) m (by decide) (by decide) (by decide) (by decide) (by decide) (by decide) (by decide) (by decide) (by decide) (by decide) (by decide) (by decide) (by decide) (by decide) (by decide)
def QEM (S : dg_S) : Prop := ∃ h : Int, QSM S h
theorem PSM.qe {op : Int} (h : PSM S op) (f1 : S.1 0 42 = .int dp) (f2 : S.1 0 43 = .int on) (f3 : S.1 0 45 = .int om) : QEM S := ⟨_, (h dp on om f1 f2 f3).2.2.2.2⟩
theorem POM.qe {x : Int32} (h : POM S) (f0 : S.1 0 46 = .int x) (f1 : S.1 0 42 = .int dp) (f2 : S.1 0 43 = .int on) (f3 : S.1 0 45 = .int om) : QEM S := PSM.qe (h x f0) f1 f2 f3
theorem POM.p0 {x : Int32} (h : POM S) (f0 : S.1 0 46 = .int x) (hx : x.toInt = 0) : P0M S := by
  have := h x f0
  rw [hx] at this
  exact this
theorem POM.p1 {x : Int32} (h : POM S) (f0 : S.1 0 46 = .int x) (hx : x.toInt = 1) : P1M S := by
  have := h x f0
  rw [hx] at this
  exact this
theorem POM.mk0 {x : Int32} (h : P0M S) (f0 : S.1 0 46 = .int x) (hx : x.toInt = 0) : POM S := by
  intro y hy
  cases f0.symm.trans hy
  rw [hx]
  exact h
theorem POM.mk1 {x : Int32} (h : P1M S) (f0 : S.1 0 46 = .int x) (hx : x.toInt = 1) : POM S := by
  intro y hy
  cases f0.symm.trans hy
  rw [hx]
  exact h
/-- a kind of frame that the walk has read -/
theorem PSM.kind {op : Int} {k : Int32} (h : PSM S op) (f1 : S.1 0 42 = .int dp) (f2 : S.1 0 43 = .int on) (f3 : S.1 0 45 = .int om) (hf : fx.toInt = dp.toInt - 1) (t22 : S.2.1 22 fx.toNatClampNeg = k) {p : Int32} (t25 : S.2.1 25 fx.toNatClampNeg = p) : dk_fk fx.toNatClampNeg k.toInt p.toInt := by
  have dd := PSM.dims h f1 f2 f3
  have ef : fx.toNatClampNeg = dp.toNatClampNeg - 1 := by rw [dk_clN, dk_clN]; omega
  obtain ⟨a1, a2, a3, a4, a5⟩ := h dp on om f1 f2 f3
  obtain ⟨b1, b2, b3, b4, b5⟩ := a1.top
  subst t22
  subst t25
  rw [ef]
  exact b5
end DKEX
/-! statements -/
theorem ZKM.mk {S S1 : dg_S} {b v : Int32} (hb : S.1 0 13 = .int b) (e : S1 = dg_uF S 0 35 (.int v)) (h : v.toInt = 1 - b.toInt) : ZKM S1 := by
  intro b' i q1 q2
  rw [dg_uF_ne e (fun z => absurd z.2 (by decide))] at q1
  rw [dg_uF_at e] at q2
  cases hb.symm.trans q1
  cases q2
  exact h
def SEM (S : dg_S) : Prop := ∀ i : Int32, S.1 0 35 = .int i → 3 ≤ (S.2.1 2 i.toNatClampNeg).toInt ∧ (S.2.1 2 i.toNatClampNeg).toInt ≤ 7 ∧ 3 ≤ (S.2.1 3 i.toNatClampNeg).toInt ∧ (S.2.1 3 i.toNatClampNeg).toInt ≤ 7
theorem SEM.mk {S : dg_S} {i c r : Int32} (fi : S.1 0 35 = .int i) (f2 : S.2.1 2 i.toNatClampNeg = c) (f3 : S.2.1 3 i.toNatClampNeg = r) (h : 3 ≤ c.toInt ∧ c.toInt ≤ 7 ∧ 3 ≤ r.toInt ∧ r.toInt ≤ 7) : SEM S := by
  intro j q
  cases fi.symm.trans q
  rw [f2, f3]
  exact h
theorem SEM.zc {S : dg_S} {i x : Int32} (h : SEM S) (fi : S.1 0 35 = .int i) (f4 : S.2.1 4 i.toNatClampNeg = x) (hx : 0 ≤ x.toInt ∧ x.toInt ≤ 6) : ZCM S := by
  intro j q
  cases fi.symm.trans q
  have := h i fi
  rw [f4]
  exact ⟨this.1, this.2.1, this.2.2.1, this.2.2.2, hx.1, hx.2⟩
theorem ZCM.shaft {S S1 : dg_S} {i v : Int32} (h : ZCM S) (fi : S.1 0 35 = .int i) (e : S1 = dg_uf S 4 (upd (S.2.1 4) i.toNatClampNeg v)) (hv : 0 ≤ v.toInt ∧ v.toInt ≤ 6) : ZCM S1 := by
  intro j q
  rw [dg_uf_F e] at q
  cases fi.symm.trans q
  obtain ⟨h1, h2, h3, h4, h5, h6⟩ := h i fi
  rw [dg_uf_ne (a := 2) e (by decide), dg_uf_ne (a := 3) e (by decide), dg_uf_at e, dk_upd_s]
  exact ⟨h1, h2, h3, h4, hv.1, hv.2⟩
/-- rules are made untold, one behind another -/
def NTM (S : dg_S) (i : Int32) (k : Int) : Prop := ∀ w : Nat, w < 3 → 3 * i.toInt + (w : Int) < k → (S.2.1 16 (3 * i.toNatClampNeg + w)).toInt = -1
theorem NTM.step {S S1 : dg_S} {i k v : Int32} (h : NTM S i k.toInt) (hi : 0 ≤ i.toInt) (hk : 3 * i.toInt ≤ k.toInt) (e : S1 = dg_uf S 16 (upd (S.2.1 16) k.toNatClampNeg v)) (hv : v.toInt = -1) {k' : Int} (hk' : k' = k.toInt + 1) : NTM S1 i k' := by
  intro w hw hlt
  have e1 := dk_clN i
  have e2 := dk_clN k
  rw [dg_uf_at e]
  by_cases z : 3 * i.toNatClampNeg + w = k.toNatClampNeg
  · rw [z, dk_upd_s]
    exact hv
  · rw [dk_upd_o z]
    exact h w hw (by omega)
theorem NTM.zv {S S1 : dg_S} {i : Int32} {k : Int} {v : Value} (h : NTM S i k) (fi : S.1 0 35 = .int i) (hk : 3 * i.toInt + 3 ≤ k) (e : S1 = dg_uF S 0 34 v) : ZVM S1 := by
  refine ZVM.none (fun j w q hw => ?_)
  rw [dg_uF_ne e (fun z => absurd z.2 (by decide))] at q
  cases fi.symm.trans q
  rw [dg_uF_f e]
  exact h w hw (by omega)
end
section
/-! 46.m14b3.lean.txt -/
theorem dX12_seaming_0 : decode cX12_seaming 0 = .ok (.aload_n 0, 1) := dk_o42 (by decide +kernel)
theorem dX12_seaming_1 : decode cX12_seaming 1 = .ok (.ldc2_w 275, 3) := dk_o20 (by decide +kernel)
theorem dX12_seaming_4 : decode cX12_seaming 4 = .ok (.invokevirtual 378, 3) := dk_o182 (by decide +kernel)
theorem dX12_seaming_7 : decode cX12_seaming 7 = .ok (.aload_n 0, 1) := dk_o42 (by decide +kernel)
theorem dX12_seaming_8 : decode cX12_seaming 8 = .ok (.getfield 54, 3) := dk_o180 (by decide +kernel)
theorem dX12_seaming_11 : decode cX12_seaming 11 = .ok (.aload_n 0, 1) := dk_o42 (by decide +kernel)
theorem dX12_seaming_12 : decode cX12_seaming 12 = .ok (.getfield 118, 3) := dk_o180 (by decide +kernel)
theorem dX12_seaming_15 : decode cX12_seaming 15 = .ok (.aload_n 0, 1) := dk_o42 (by decide +kernel)
theorem dX12_seaming_16 : decode cX12_seaming 16 = .ok (.iconst 3, 1) := dk_o6 (by decide +kernel)
theorem dX12_seaming_17 : decode cX12_seaming 17 = .ok (.bipush 7, 2) := dk_o16 (by decide +kernel)
theorem dX12_seaming_19 : decode cX12_seaming 19 = .ok (.invokevirtual 374, 3) := dk_o182 (by decide +kernel)
theorem dX12_seaming_22 : decode cX12_seaming 22 = .ok (.iastore, 1) := dk_o79 (by decide +kernel)
theorem dX12_seaming_23 : decode cX12_seaming 23 = .ok (.aload_n 0, 1) := dk_o42 (by decide +kernel)
theorem dX12_seaming_24 : decode cX12_seaming 24 = .ok (.ldc2_w 277, 3) := dk_o20 (by decide +kernel)
theorem dX12_seaming_27 : decode cX12_seaming 27 = .ok (.invokevirtual 378, 3) := dk_o182 (by decide +kernel)
theorem dX12_seaming_30 : decode cX12_seaming 30 = .ok (.aload_n 0, 1) := dk_o42 (by decide +kernel)
theorem dX12_seaming_31 : decode cX12_seaming 31 = .ok (.getfield 57, 3) := dk_o180 (by decide +kernel)
theorem dX12_seaming_34 : decode cX12_seaming 34 = .ok (.aload_n 0, 1) := dk_o42 (by decide +kernel)
theorem dX12_seaming_35 : decode cX12_seaming 35 = .ok (.getfield 118, 3) := dk_o180 (by decide +kernel)
theorem dX12_seaming_38 : decode cX12_seaming 38 = .ok (.aload_n 0, 1) := dk_o42 (by decide +kernel)
theorem dX12_seaming_39 : decode cX12_seaming 39 = .ok (.iconst 3, 1) := dk_o6 (by decide +kernel)
theorem dX12_seaming_40 : decode cX12_seaming 40 = .ok (.bipush 7, 2) := dk_o16 (by decide +kernel)
theorem dX12_seaming_42 : decode cX12_seaming 42 = .ok (.invokevirtual 374, 3) := dk_o182 (by decide +kernel)
theorem dX12_seaming_45 : decode cX12_seaming 45 = .ok (.iastore, 1) := dk_o79 (by decide +kernel)
theorem dX12_seaming_46 : decode cX12_seaming 46 = .ok (.return_, 1) := dk_o177 (by decide +kernel)
set_option maxHeartbeats 8000000 in
set_option maxRecDepth 100000 in
theorem c_m_seaming (l : Launch) (g : Nat → ClassId) (D : va_G) (o : Nat) (S : dg_S) (tb : Nat → Int32) (tn : Nat) (sg9 : y_S) (S0 : dg_S) (sg : Int32) (f_sg : S.1 0 3 = .int sg) (b_sg : 0 ≤ (sg).toInt ∧ (sg).toInt ≤ 3) (sa : Int32) (f_sa : S.1 0 4 = .int sa) (b_sa : 0 ≤ (sa).toInt ∧ (sa).toInt ≤ 1600) (se : Int32) (f_se : S.1 0 5 = .int se) (b_se : 0 ≤ (se).toInt ∧ (se).toInt ≤ 1600) (sl : Int32) (f_sl : S.1 0 2 = .int sl) (b_sl : 0 ≤ (sl).toInt ∧ (sl).toInt ≤ 1600) (fk : Int32) (f_fk : S.1 0 8 = .int fk) (b_fk : 0 ≤ (fk).toInt ∧ (fk).toInt ≤ 6) (ii : Int32) (f_ii : S.1 0 35 = .int ii) (b_ii : 0 ≤ (ii).toInt ∧ (ii).toInt ≤ 1) (hlx : (sa).toInt ≤ (se).toInt ∧ (se).toInt ≤ (sl).toInt ∧ ((sg).toInt ≠ 0 → (sa).toInt + 1 ≤ (se).toInt)) (TK : TKM tb tn S) (GS : GSM sg9 S) (ZB : ZBM S) (ZK : ZKM S) (GB : GBM S0 S) (I : CM o S) (sz : Nat) : Met l yX12_seaming (bw yX12_seaming cX12_seaming 1 none) ({ frames := 4, cells := 0, slots := 0, locals := 100 } : Room) (dk_Pc g D (dg_w g shM o rfM S) sz [.ref (o + 0)]) (va_Qv (fun S' => CM o S' ∧ dg_sm shM [(0, 3), (0, 4), (0, 5), (0, 6), (0, 7), (0, 8), (0, 9), (0, 12)] [2, 3] S S' ∧ (∃ y9_3 y9_4 y9_5 y9_8 : Int32, S'.1 0 3 = .int y9_3 ∧ S'.1 0 4 = .int y9_4 ∧ S'.1 0 5 = .int y9_5 ∧ S'.1 0 8 = .int y9_8 ∧ (((y9_4).toInt ≤ (y9_5).toInt ∧ (y9_5).toInt ≤ (sl).toInt ∧ ((y9_3).toInt ≠ 0 → (y9_4).toInt + 1 ≤ (y9_5).toInt)) ∧ (sa).toInt ≤ (y9_4).toInt ∧ ((fk).toInt ≠ 0 → (y9_8).toInt ≠ 0) ∧ ((y9_8).toInt = 0 → (sa).toInt + 1 ≤ (y9_4).toInt))) ∧ (∀ k9 : Int32, S'.1 0 8 = .int k9 → k9.toInt = 0 → SEM S') ∧ (SOK tb tn fk ((y_seam (T_kd tb tn) (T_vl tb tn) (t_ix tb tn (sa : Int32).toNatClampNeg)).map fun k9 => ((((T_vl tb tn ((t_ix tb tn (sa : Int32).toNatClampNeg) + 1)).toInt, (T_vl tb tn ((t_ix tb tn (sa : Int32).toNatClampNeg) + 3)).toInt), sg9.2), k9)) S') ∧ TKM tb tn S' ∧ ZBM S' ∧ GBM S0 S' ∧ True) (dg_B g D shM o rfM) (dg_A o shM.length sz)) 0 0 (dg_A o shM.length sz) := by
  refine dg_met (cc := cX12_seaming) (maxL := 1) (ret := none) (dk_dq rfl) rfl (Nat.le_of_ble_eq_true rfl) ?_
  intro p e s m args below meth c A hAe harg hx hb hr hml hts hown hlocks hin hP K hS hA1 hA ST hsz ls hl
  rw [← hAe]
  have F : CallFix p m c cX12_seaming 1 s args (bw yX12_seaming cX12_seaming 1 none) RX12 := ⟨hx, hb, hml, hown, hts⟩
  have hl : lv_has ls 1 [(0, .ref (o + 0))] := hl
  have M_0 : dg_sm shM [(0, 3), (0, 4), (0, 5), (0, 6), (0, 7), (0, 8), (0, 9), (0, 12)] [2, 3] S S := dg_sm.rf
  obtain ⟨Q9, hQ9⟩ : ∃ Q : State → Prop, Q = MQ below (va_Qv (fun S' => CM o S' ∧ dg_sm shM [(0, 3), (0, 4), (0, 5), (0, 6), (0, 7), (0, 8), (0, 9), (0, 12)] [2, 3] S S' ∧ (∃ y9_3 y9_4 y9_5 y9_8 : Int32, S'.1 0 3 = .int y9_3 ∧ S'.1 0 4 = .int y9_4 ∧ S'.1 0 5 = .int y9_5 ∧ S'.1 0 8 = .int y9_8 ∧ (((y9_4).toInt ≤ (y9_5).toInt ∧ (y9_5).toInt ≤ (sl).toInt ∧ ((y9_3).toInt ≠ 0 → (y9_4).toInt + 1 ≤ (y9_5).toInt)) ∧ (sa).toInt ≤ (y9_4).toInt ∧ ((fk).toInt ≠ 0 → (y9_8).toInt ≠ 0) ∧ ((y9_8).toInt = 0 → (sa).toInt + 1 ≤ (y9_4).toInt))) ∧ (∀ k9 : Int32, S'.1 0 8 = .int k9 → k9.toInt = 0 → SEM S') ∧ (SOK tb tn fk ((y_seam (T_kd tb tn) (T_vl tb tn) (t_ix tb tn (sa : Int32).toNatClampNeg)).map fun k9 => ((((T_vl tb tn ((t_ix tb tn (sa : Int32).toNatClampNeg) + 1)).toInt, (T_vl tb tn ((t_ix tb tn (sa : Int32).toNatClampNeg) + 3)).toInt), sg9.2), k9)) S') ∧ TKM tb tn S' ∧ ZBM S' ∧ GBM S0 S' ∧ True) (dg_B g D shM o rfM) A) args s 0 0 A := ⟨_, rfl⟩
  rw [← hQ9]
  obtain ⟨hlx_0, hlx_1, hlx_2⟩ := hlx
  obtain ⟨x_1, f_x_1, b_x_1⟩ := dg_I.int (i := 0) (k := 13) (lo := 0) (hi := 1) I sM_0 (by decide +kernel)
  have hzk := ZK _ _ f_x_1 f_ii
  refine lv_aload_n hx hb dX12_seaming_0 rfl (lv_at hl 0 rfl) ?_
  refine lv_ldc2 hx hb hown (hts _ (bw_mem wB_325)) dX12_seaming_1 ?_
  refine dg_callv hS hA1 hA (va_runV (As := [.long 1936023917]) (rest := []) F (c_m_must_ l g D o S 1936023917 tb tn 0 sg f_sg (by omega) sa f_sa (by omega) se f_se (by omega) sl f_sl (by omega) fk f_fk (by omega) (by omega) ⟨by decide, by decide +kernel⟩ TK I s.heap.size) (cwV 1 hts (bw_V wB_393 wB_394 wB_395 wB_297 wB_392) rfl rfl rfl (by decide +kernel) ⟨Nat.le_of_ble_eq_true rfl, Nat.le_of_ble_eq_true rfl⟩) (dg_preV sM_0 rfl K ST hP hS hA1 hA) rfl rfl hl.1 rfl (lv_room (Nat.le_of_ble_eq_true rfl)) dX12_seaming_4 ⟨Nat.le_of_ble_eq_true rfl, Nat.le_of_ble_eq_true rfl⟩) (fun S_2 hw_2 H locs hP hS => ?_)
  obtain ⟨I_2, m_2, w_2_0, w_2_1, -⟩ := hw_2
  have M_2 := dg_sm.tr M_0 m_2 (dk_dq rfl) (dk_dq rfl)
  obtain ⟨y_3, y_4, y_5, y_6, f_y_3, f_y_4, f_y_5, f_y_6, w_2_0⟩ := w_2_0
  have w_2_0 : (((y_4).toInt ≤ (y_5).toInt ∧ (y_5).toInt ≤ (sl).toInt ∧ ((y_3).toInt ≠ 0 → (y_4).toInt + 1 ≤ (y_5).toInt)) ∧ (sa).toInt ≤ (y_4).toInt ∧ ((fk).toInt ≠ 0 → (y_6).toInt ≠ 0) ∧ ((y_6).toInt = 0 → (sa).toInt + 1 ≤ (y_4).toInt)) ∧ m_hid ((fk).toInt = 0 → m_an y_6 (y_own (T_kd tb tn) (T_vl tb tn) 0 (t_ix tb tn (sa : Int32).toNatClampNeg)) (t_ix tb tn (y_4 : Int32).toNatClampNeg)) := w_2_0
  obtain ⟨⟨⟨w_2_0_0, w_2_0_1, w_2_0_2⟩, w_2_0_3, w_2_0_4, w_2_0_5⟩, w_2_0_6⟩ := w_2_0
  clear hlx_2
  have b_y_3 : 0 ≤ (y_3).toInt ∧ (y_3).toInt ≤ 3 := dg_I.intb (lo := 0) (hi := 3) I_2 sM_0 (by decide +kernel) f_y_3
  have b_y_4 : 0 ≤ (y_4).toInt ∧ (y_4).toInt ≤ 1600 := dg_I.intb (lo := 0) (hi := 1600) I_2 sM_0 (by decide +kernel) f_y_4
  have b_y_5 : 0 ≤ (y_5).toInt ∧ (y_5).toInt ≤ 1600 := dg_I.intb (lo := 0) (hi := 1600) I_2 sM_0 (by decide +kernel) f_y_5
  have b_y_6 : 0 ≤ (y_6).toInt ∧ (y_6).toInt ≤ 6 := dg_I.intb (lo := 0) (hi := 6) I_2 sM_0 (by decide +kernel) f_y_6
  refine lv_aload_n hx hb dX12_seaming_7 rfl (lv_at hl 0 rfl) ?_
  refine dg_get (C := RX12) (T := TX12) (N := 77) hx hb hts (fun w h => bw_mem (wU_X12 w h)) hown K hP sM_0 rfl 14 (dk_dq rfl) (hts _ (bw_mem wB_372)) (fun _ h9 => h9) (v := .ref (o + 2)) (show S_2.1 0 14 = .ref (o + 2) from dg_I.rel (d := 2) I_2 sM_0 (by decide +kernel)) dX12_seaming_8 ?_
  refine lv_aload_n hx hb dX12_seaming_11 rfl (lv_at hl 0 rfl) ?_
  refine dg_get (C := RX12) (T := TX12) (N := 77) hx hb hts (fun w h => bw_mem (wU_X12 w h)) hown K hP sM_0 rfl 35 (dk_dq rfl) (hts _ (bw_mem wB_353)) (fun _ h9 => h9) (v := .int ii) ((m_2.1 0 35 _ sM_0 (dk_dq rfl)).trans f_ii) dX12_seaming_12 ?_
  refine lv_aload_n hx hb dX12_seaming_15 rfl (lv_at hl 0 rfl) ?_
  refine lv_iconst (v := 3) hx hb dX12_seaming_16 (by decide +kernel) ?_
  refine lv_bipush (v := 7) hx hb dX12_seaming_17 (by decide +kernel) ?_
  refine dg_calli hS hA1 hA (va_runV (As := [.int 3, .int 7]) (rest := [.int ii, .ref (o + 2)]) F (c_m_number l g D o S_2 3 7 tb tn y_3 f_y_3 (by omega) y_4 f_y_4 (by omega) y_5 f_y_5 (by omega) sl ((m_2.1 0 2 _ sM_0 (dk_dq rfl)).trans f_sl) (by omega) y_6 f_y_6 (by omega) (by omega) w_2_1 I_2 H.size) (cwV 2 hts (bw_V wB_374 wB_375 wB_376 wB_297 wB_373) rfl rfl rfl (by decide +kernel) ⟨Nat.le_of_ble_eq_true rfl, Nat.le_of_ble_eq_true rfl⟩) (dg_preV sM_0 rfl K ST hP hS hA1 hA) rfl rfl hl.1 rfl (lv_room (Nat.le_of_ble_eq_true rfl)) dX12_seaming_19 ⟨Nat.le_of_ble_eq_true rfl, Nat.le_of_ble_eq_true rfl⟩) (fun x_7 S_8 hw_8 H locs hP hS => ?_)
  obtain ⟨I_8, m_8, w_8_0, w_8_1, w_8_2, -⟩ := hw_8
  have M_8 := dg_sm.tr M_2 m_8 (dk_dq rfl) (dk_dq rfl)
  have hz_9 : (3 : Int32).toInt = 3 := by decide +kernel
  have hz_10 : (7 : Int32).toInt = 7 := by decide +kernel
  have w_8_0 : 0 ≤ (x_7).toInt ∧ (x_7).toInt ≤ 9999 := w_8_0
  obtain ⟨y_11, y_12, y_13, y_14, f_y_11, f_y_12, f_y_13, f_y_14, w_8_1⟩ := w_8_1
  have w_8_1 : (((y_12).toInt ≤ (y_13).toInt ∧ (y_13).toInt ≤ (sl).toInt ∧ ((y_11).toInt ≠ 0 → (y_12).toInt + 1 ≤ (y_13).toInt)) ∧ (y_4).toInt ≤ (y_12).toInt ∧ ((y_6).toInt ≠ 0 → (y_14).toInt ≠ 0) ∧ ((y_14).toInt = 0 → (((3 : Int32)).toInt ≤ (x_7).toInt ∧ (x_7).toInt ≤ ((7 : Int32)).toInt ∧ (y_4).toInt + 1 ≤ (y_12).toInt))) ∧ m_hid ((y_6).toInt = 0 → m_an y_14 (y_num (T_kd tb tn) (T_vl tb tn) ((3 : Int32)).toInt ((7 : Int32)).toInt (t_ix tb tn (y_4 : Int32).toNatClampNeg)) (t_ix tb tn (y_12 : Int32).toNatClampNeg) ∧ ((y_14).toInt = 0 → (x_7).toInt = (T_vl tb tn (t_ix tb tn (y_4 : Int32).toNatClampNeg)).toInt)) := w_8_1
  obtain ⟨⟨⟨w_8_1_0, w_8_1_1, w_8_1_2⟩, w_8_1_3, w_8_1_4, w_8_1_5⟩, w_8_1_6⟩ := w_8_1
  clear w_2_0_2
  have b_y_11 : 0 ≤ (y_11).toInt ∧ (y_11).toInt ≤ 3 := dg_I.intb (lo := 0) (hi := 3) I_8 sM_0 (by decide +kernel) f_y_11
  have b_y_12 : 0 ≤ (y_12).toInt ∧ (y_12).toInt ≤ 1600 := dg_I.intb (lo := 0) (hi := 1600) I_8 sM_0 (by decide +kernel) f_y_12
  have b_y_13 : 0 ≤ (y_13).toInt ∧ (y_13).toInt ≤ 1600 := dg_I.intb (lo := 0) (hi := 1600) I_8 sM_0 (by decide +kernel) f_y_13
  have b_y_14 : 0 ≤ (y_14).toInt ∧ (y_14).toInt ≤ 6 := dg_I.intb (lo := 0) (hi := 6) I_8 sM_0 (by decide +kernel) f_y_14
  have hin_15 : vp_in ii 2 := (dk_inv2 (by omega))
  as_aux_lemma =>
    refine dg_iast hx hb K hP hS hA1 sM_2 hin_15 dX12_seaming_22 (fun S_16 e_16 H locs hP hS => ?_)
    have I_16 := dg_I.ufu (lo := 0) (hi := 9999) I_8 e_16 sM_2 (by decide +kernel) (show 0 ≤ (x_7).toInt ∧ (x_7).toInt ≤ 9999 from (by omega))
    have M_16 := dg_sm.uf M_8 e_16 sM_2 (dk_dq rfl)
    have ZB_16 : ZBM S_16 := ZBM.up (r := 2) (ZBM.keep (ZBM.keep ZB m_2 (dk_dq rfl) (dk_dq rfl) (dk_dq rfl) (dk_dq rfl) (dk_dq rfl)) m_8 (dk_dq rfl) (dk_dq rfl) (dk_dq rfl) (dk_dq rfl) (dk_dq rfl)) (dk_dq rfl) (((m_8.1 0 13 _ sM_0 (dk_dq rfl)).trans (m_2.1 0 13 _ sM_0 (dk_dq rfl))).trans f_x_1) (by omega) e_16 (by omega)
    have GB_16 := GBM.st (GBM.keep (GBM.keep GB m_2 (dk_dq rfl) (dk_dq rfl) (dk_dq rfl)) m_8 (dk_dq rfl) (dk_dq rfl) (dk_dq rfl)) (ZKM.keep (ZKM.keep ZK m_2 (dk_dq rfl) (dk_dq rfl)) m_8 (dk_dq rfl) (dk_dq rfl)) (((m_8.1 0 35 _ sM_0 (dk_dq rfl)).trans (m_2.1 0 35 _ sM_0 (dk_dq rfl))).trans f_ii) 1 rfl (wi := 1) rfl e_16 (by omega) (by omega)
    refine lv_aload_n hx hb dX12_seaming_23 rfl (lv_at hl 0 rfl) ?_
    refine lv_ldc2 hx hb hown (hts _ (bw_mem wB_326)) dX12_seaming_24 ?_
    refine dg_callv hS hA1 hA (va_runV (As := [.long 25209]) (rest := []) F (c_m_must_ l g D o S_16 25209 tb tn 1 y_11 ((dg_uf_F e_16 0 3).trans f_y_11) (by omega) y_12 ((dg_uf_F e_16 0 4).trans f_y_12) (by omega) y_13 ((dg_uf_F e_16 0 5).trans f_y_13) (by omega) sl (((dg_uf_F e_16 0 2).trans ((m_8.1 0 2 _ sM_0 (dk_dq rfl)).trans (m_2.1 0 2 _ sM_0 (dk_dq rfl)))).trans f_sl) (by omega) y_14 ((dg_uf_F e_16 0 8).trans f_y_14) (by omega) (by omega) ⟨by decide, by decide +kernel⟩ (TKM.keep w_8_2 (dg_sm.uf (WF := []) (WA := [2]) dg_sm.rf e_16 sM_2 (dk_dq rfl)) (dk_dq rfl) (dk_dq rfl) (dk_dq rfl) (dk_dq rfl) (dk_dq rfl) (dk_dq rfl) (dk_dq rfl) (dk_dq rfl)) I_16 H.size) (cwV 1 hts (bw_V wB_393 wB_394 wB_395 wB_297 wB_392) rfl rfl rfl (by decide +kernel) ⟨Nat.le_of_ble_eq_true rfl, Nat.le_of_ble_eq_true rfl⟩) (dg_preV sM_0 rfl K ST hP hS hA1 hA) rfl rfl hl.1 rfl (lv_room (Nat.le_of_ble_eq_true rfl)) dX12_seaming_27 ⟨Nat.le_of_ble_eq_true rfl, Nat.le_of_ble_eq_true rfl⟩) (fun S_17 hw_17 H locs hP hS => ?_)
    obtain ⟨I_17, m_17, w_17_0, w_17_1, -⟩ := hw_17
    have M_17 := dg_sm.tr M_16 m_17 (dk_dq rfl) (dk_dq rfl)
    obtain ⟨y_18, y_19, y_20, y_21, f_y_18, f_y_19, f_y_20, f_y_21, w_17_0⟩ := w_17_0
    have w_17_0 : (((y_19).toInt ≤ (y_20).toInt ∧ (y_20).toInt ≤ (sl).toInt ∧ ((y_18).toInt ≠ 0 → (y_19).toInt + 1 ≤ (y_20).toInt)) ∧ (y_12).toInt ≤ (y_19).toInt ∧ ((y_14).toInt ≠ 0 → (y_21).toInt ≠ 0) ∧ ((y_21).toInt = 0 → (y_12).toInt + 1 ≤ (y_19).toInt)) ∧ m_hid ((y_14).toInt = 0 → m_an y_21 (y_own (T_kd tb tn) (T_vl tb tn) 1 (t_ix tb tn (y_12 : Int32).toNatClampNeg)) (t_ix tb tn (y_19 : Int32).toNatClampNeg)) := w_17_0
    obtain ⟨⟨⟨w_17_0_0, w_17_0_1, w_17_0_2⟩, w_17_0_3, w_17_0_4, w_17_0_5⟩, w_17_0_6⟩ := w_17_0
    clear w_8_1_2
    have b_y_18 : 0 ≤ (y_18).toInt ∧ (y_18).toInt ≤ 3 := dg_I.intb (lo := 0) (hi := 3) I_17 sM_0 (by decide +kernel) f_y_18
    have b_y_19 : 0 ≤ (y_19).toInt ∧ (y_19).toInt ≤ 1600 := dg_I.intb (lo := 0) (hi := 1600) I_17 sM_0 (by decide +kernel) f_y_19
    have b_y_20 : 0 ≤ (y_20).toInt ∧ (y_20).toInt ≤ 1600 := dg_I.intb (lo := 0) (hi := 1600) I_17 sM_0 (by decide +kernel) f_y_20
    have b_y_21 : 0 ≤ (y_21).toInt ∧ (y_21).toInt ≤ 6 := dg_I.intb (lo := 0) (hi := 6) I_17 sM_0 (by decide +kernel) f_y_21
    refine lv_aload_n hx hb dX12_seaming_30 rfl (lv_at hl 0 rfl) ?_
    refine dg_get (C := RX12) (T := TX12) (N := 77) hx hb hts (fun w h => bw_mem (wU_X12 w h)) hown K hP sM_0 rfl 15 (dk_dq rfl) (hts _ (bw_mem wB_377)) (fun _ h9 => h9) (v := .ref (o + 3)) (show S_17.1 0 15 = .ref (o + 3) from dg_I.rel (d := 3) I_17 sM_0 (by decide +kernel)) dX12_seaming_31 ?_
    refine lv_aload_n hx hb dX12_seaming_34 rfl (lv_at hl 0 rfl) ?_
    refine dg_get (C := RX12) (T := TX12) (N := 77) hx hb hts (fun w h => bw_mem (wU_X12 w h)) hown K hP sM_0 rfl 35 (dk_dq rfl) (hts _ (bw_mem wB_353)) (fun _ h9 => h9) (v := .int ii) (((m_17.1 0 35 _ sM_0 (dk_dq rfl)).trans ((dg_uf_F e_16 0 35).trans ((m_8.1 0 35 _ sM_0 (dk_dq rfl)).trans (m_2.1 0 35 _ sM_0 (dk_dq rfl))))).trans f_ii) dX12_seaming_35 ?_
    refine lv_aload_n hx hb dX12_seaming_38 rfl (lv_at hl 0 rfl) ?_
    refine lv_iconst (v := 3) hx hb dX12_seaming_39 (by decide +kernel) ?_
    refine lv_bipush (v := 7) hx hb dX12_seaming_40 (by decide +kernel) ?_
    refine dg_calli hS hA1 hA (va_runV (As := [.int 3, .int 7]) (rest := [.int ii, .ref (o + 3)]) F (c_m_number l g D o S_17 3 7 tb tn y_18 f_y_18 (by omega) y_19 f_y_19 (by omega) y_20 f_y_20 (by omega) sl (((m_17.1 0 2 _ sM_0 (dk_dq rfl)).trans ((dg_uf_F e_16 0 2).trans ((m_8.1 0 2 _ sM_0 (dk_dq rfl)).trans (m_2.1 0 2 _ sM_0 (dk_dq rfl))))).trans f_sl) (by omega) y_21 f_y_21 (by omega) (by omega) w_17_1 I_17 H.size) (cwV 2 hts (bw_V wB_374 wB_375 wB_376 wB_297 wB_373) rfl rfl rfl (by decide +kernel) ⟨Nat.le_of_ble_eq_true rfl, Nat.le_of_ble_eq_true rfl⟩) (dg_preV sM_0 rfl K ST hP hS hA1 hA) rfl rfl hl.1 rfl (lv_room (Nat.le_of_ble_eq_true rfl)) dX12_seaming_42 ⟨Nat.le_of_ble_eq_true rfl, Nat.le_of_ble_eq_true rfl⟩) (fun x_22 S_23 hw_23 H locs hP hS => ?_)
    obtain ⟨I_23, m_23, w_23_0, w_23_1, w_23_2, -⟩ := hw_23
    have M_23 := dg_sm.tr M_17 m_23 (dk_dq rfl) (dk_dq rfl)
    have hz_24 : (3 : Int32).toInt = 3 := by decide +kernel
    have hz_25 : (7 : Int32).toInt = 7 := by decide +kernel
    have w_23_0 : 0 ≤ (x_22).toInt ∧ (x_22).toInt ≤ 9999 := w_23_0
    obtain ⟨y_26, y_27, y_28, y_29, f_y_26, f_y_27, f_y_28, f_y_29, w_23_1⟩ := w_23_1
    have w_23_1 : (((y_27).toInt ≤ (y_28).toInt ∧ (y_28).toInt ≤ (sl).toInt ∧ ((y_26).toInt ≠ 0 → (y_27).toInt + 1 ≤ (y_28).toInt)) ∧ (y_19).toInt ≤ (y_27).toInt ∧ ((y_21).toInt ≠ 0 → (y_29).toInt ≠ 0) ∧ ((y_29).toInt = 0 → (((3 : Int32)).toInt ≤ (x_22).toInt ∧ (x_22).toInt ≤ ((7 : Int32)).toInt ∧ (y_19).toInt + 1 ≤ (y_27).toInt))) ∧ m_hid ((y_21).toInt = 0 → m_an y_29 (y_num (T_kd tb tn) (T_vl tb tn) ((3 : Int32)).toInt ((7 : Int32)).toInt (t_ix tb tn (y_19 : Int32).toNatClampNeg)) (t_ix tb tn (y_27 : Int32).toNatClampNeg) ∧ ((y_29).toInt = 0 → (x_22).toInt = (T_vl tb tn (t_ix tb tn (y_19 : Int32).toNatClampNeg)).toInt)) := w_23_1
    obtain ⟨⟨⟨w_23_1_0, w_23_1_1, w_23_1_2⟩, w_23_1_3, w_23_1_4, w_23_1_5⟩, w_23_1_6⟩ := w_23_1
    clear w_17_0_2
    have b_y_26 : 0 ≤ (y_26).toInt ∧ (y_26).toInt ≤ 3 := dg_I.intb (lo := 0) (hi := 3) I_23 sM_0 (by decide +kernel) f_y_26
    have b_y_27 : 0 ≤ (y_27).toInt ∧ (y_27).toInt ≤ 1600 := dg_I.intb (lo := 0) (hi := 1600) I_23 sM_0 (by decide +kernel) f_y_27
    have b_y_28 : 0 ≤ (y_28).toInt ∧ (y_28).toInt ≤ 1600 := dg_I.intb (lo := 0) (hi := 1600) I_23 sM_0 (by decide +kernel) f_y_28
    have b_y_29 : 0 ≤ (y_29).toInt ∧ (y_29).toInt ≤ 6 := dg_I.intb (lo := 0) (hi := 6) I_23 sM_0 (by decide +kernel) f_y_29
    have hin_30 : vp_in ii 2 := (dk_inv2 (by omega))
    refine dg_iast hx hb K hP hS hA1 sM_3 hin_30 dX12_seaming_45 (fun S_31 e_31 H locs hP hS => ?_)
    have I_31 := dg_I.ufu (lo := 0) (hi := 9999) I_23 e_31 sM_3 (by decide +kernel) (show 0 ≤ (x_22).toInt ∧ (x_22).toInt ≤ 9999 from (by omega))
    have M_31 := dg_sm.uf M_23 e_31 sM_3 (dk_dq rfl)
    have ZB_31 : ZBM S_31 := ZBM.up (r := 3) (ZBM.keep (ZBM.keep ZB_16 m_17 (dk_dq rfl) (dk_dq rfl) (dk_dq rfl) (dk_dq rfl) (dk_dq rfl)) m_23 (dk_dq rfl) (dk_dq rfl) (dk_dq rfl) (dk_dq rfl) (dk_dq rfl)) (dk_dq rfl) (((m_23.1 0 13 _ sM_0 (dk_dq rfl)).trans ((m_17.1 0 13 _ sM_0 (dk_dq rfl)).trans ((dg_uf_F e_16 0 13).trans ((m_8.1 0 13 _ sM_0 (dk_dq rfl)).trans (m_2.1 0 13 _ sM_0 (dk_dq rfl)))))).trans f_x_1) (by omega) e_31 (by omega)
    have GB_31 := GBM.st (GBM.keep (GBM.keep GB_16 m_17 (dk_dq rfl) (dk_dq rfl) (dk_dq rfl)) m_23 (dk_dq rfl) (dk_dq rfl) (dk_dq rfl)) (ZKM.keep (ZKM.keep (ZKM.keep (ZKM.keep (ZKM.keep ZK m_2 (dk_dq rfl) (dk_dq rfl)) m_8 (dk_dq rfl) (dk_dq rfl)) (dg_sm.uf (WF := []) (WA := [2]) dg_sm.rf e_16 sM_2 (dk_dq rfl)) (dk_dq rfl) (dk_dq rfl)) m_17 (dk_dq rfl) (dk_dq rfl)) m_23 (dk_dq rfl) (dk_dq rfl)) (((m_23.1 0 35 _ sM_0 (dk_dq rfl)).trans ((m_17.1 0 35 _ sM_0 (dk_dq rfl)).trans ((dg_uf_F e_16 0 35).trans ((m_8.1 0 35 _ sM_0 (dk_dq rfl)).trans (m_2.1 0 35 _ sM_0 (dk_dq rfl)))))).trans f_ii) 1 rfl (wi := 1) rfl e_31 (by omega) (by omega)
    refine W.widen (k := 0) (n := 0) (Nat.le_of_ble_eq_true rfl) (Nat.le_of_ble_eq_true rfl) ?_
    rw [hQ9]
    exact dg_vret hx hb hr hlocks hP hS ⟨I_31, M_31, ⟨y_26, y_27, y_28, y_29, ((dg_uf_F e_31 0 3).trans f_y_26), ((dg_uf_F e_31 0 4).trans f_y_27), ((dg_uf_F e_31 0 5).trans f_y_28), ((dg_uf_F e_31 0 8).trans f_y_29), (by omega)⟩, (fun k9 hk9 hk0 => by have q9 := (((dg_uf_F e_31 0 8).trans f_y_29)).symm.trans hk9; cases q9; exact SEM.mk (((dg_uf_F e_31 0 35).trans ((m_23.1 0 35 _ sM_0 (dk_dq rfl)).trans ((m_17.1 0 35 _ sM_0 (dk_dq rfl)).trans ((dg_uf_F e_16 0 35).trans ((m_8.1 0 35 _ sM_0 (dk_dq rfl)).trans (m_2.1 0 35 _ sM_0 (dk_dq rfl))))))).trans f_ii) ((congrFun ((dg_uf_ne e_31 (dk_dq rfl)).trans ((m_23.2 2 _ sM_2 (dk_dq rfl)).1.trans (m_17.2 2 _ sM_2 (dk_dq rfl)).1)) _).trans ((congrFun (dg_uf_at e_16) _).trans (dg_upd_at rfl))) ((congrFun (dg_uf_at e_31) _).trans (dg_upd_at rfl)) (by omega)), (SOK.mk0 (fk := fk) ((dg_uf_F e_31 0 8).trans f_y_29) ((dg_uf_F e_31 0 4).trans f_y_27) (fun h0 => (m_an.bind (w_2_0_6.out (by omega)) (fun q1 => m_an.bind (by have h9 := (w_8_1_6.out (by omega)).1; rw [show ((3 : Int32)).toInt = 3 from by decide +kernel, show ((7 : Int32)).toInt = 7 from by decide +kernel] at h9; exact h9) (fun q2 => m_an.bind (w_17_0_6.out (by omega)) (fun q3 => (by have h9 := (w_23_1_6.out (by omega)).1; rw [show ((3 : Int32)).toInt = 3 from by decide +kernel, show ((7 : Int32)).toInt = 7 from by decide +kernel] at h9; exact h9)) (by omega)) (by omega)) (by omega))) (fun h0 q8 => by have a1 := (y_own_o ((w_2_0_6.out (by omega)).1 (by omega))).2; have a2 := (y_num_o ((w_8_1_6.out (by omega)).1.1 (by omega))).2.2.2; have a3 := (y_own_o ((w_17_0_6.out (by omega)).1 (by omega))).2; have b1 := (w_8_1_6.out (by omega)).2 (by omega); have b2 := (w_23_1_6.out (by omega)).2 (by omega); have g9 := (GSM.c3 (GSM.keep (GSM.keep (GSM.c2 (GSM.keep (GSM.keep GS m_2 (dk_dq rfl) (dk_dq rfl) (dk_dq rfl) (dk_dq rfl) (dk_dq rfl) (dk_dq rfl) (dk_dq rfl) (dk_dq rfl) (dk_dq rfl)) m_8 (dk_dq rfl) (dk_dq rfl) (dk_dq rfl) (dk_dq rfl) (dk_dq rfl) (dk_dq rfl) (dk_dq rfl) (dk_dq rfl) (dk_dq rfl)) (((m_8.1 0 35 _ sM_0 (dk_dq rfl)).trans (m_2.1 0 35 _ sM_0 (dk_dq rfl))).trans f_ii) e_16) m_17 (dk_dq rfl) (dk_dq rfl) (dk_dq rfl) (dk_dq rfl) (dk_dq rfl) (dk_dq rfl) (dk_dq rfl) (dk_dq rfl) (dk_dq rfl)) m_23 (dk_dq rfl) (dk_dq rfl) (dk_dq rfl) (dk_dq rfl) (dk_dq rfl) (dk_dq rfl) (dk_dq rfl) (dk_dq rfl) (dk_dq rfl)) (((m_23.1 0 35 _ sM_0 (dk_dq rfl)).trans ((m_17.1 0 35 _ sM_0 (dk_dq rfl)).trans ((dg_uf_F e_16 0 35).trans ((m_8.1 0 35 _ sM_0 (dk_dq rfl)).trans (m_2.1 0 35 _ sM_0 (dk_dq rfl)))))).trans f_ii) e_31); rw [b1, b2, a3, a2, a1] at g9; exact g9) rfl), (TKM.keep w_23_2 (dg_sm.uf (WF := []) (WA := [3]) dg_sm.rf e_31 sM_3 (dk_dq rfl)) (dk_dq rfl) (dk_dq rfl) (dk_dq rfl) (dk_dq rfl) (dk_dq rfl) (dk_dq rfl) (dk_dq rfl) (dk_dq rfl)), ZB_31, GB_31, trivial⟩ dX12_seaming_46
end
