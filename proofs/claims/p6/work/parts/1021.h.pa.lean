/-! the frames of a state, as the machine of frames has them -/
def fI (S : dg_S) (k : Nat) : Int32 := match S.1 0 k with
  | .int x => x
  | _ => 0
theorem fI_at {S : dg_S} {k : Nat} {x : Int32} (h : S.1 0 k = .int x) : fI S k = x := by
  unfold fI
  rw [h]
def MSL (S : dg_S) : List m_F := c_L (S.2.1 22) (S.2.1 23) (S.2.1 24) (S.2.1 26) (S.2.1 27) (fI S 42).toNatClampNeg (fI S 45).toNatClampNeg
def MSv (S : dg_S) (k : Nat) (q : Bool) : m_S := (0, MSL S, (fI S 43).toNatClampNeg, k, q)
/-- the top frame, those below it, how many brackets -/
def TFM (kn ph : Int) (bg : Bool) (nt : Nat) (R : List m_F) (o : Nat) (S : dg_S) : Prop := MSL S = (kn, ph, bg, nt) :: R ∧ (fI S 43).toNatClampNeg = o ∧ c_ok (S.2.1 26) (fI S 42).toNatClampNeg (fI S 45).toNatClampNeg
section TF
variable {S S1 S2 : dg_S} {WF : List (Nat × Nat)} {WA : List Nat} {dp on om dp' on' om' fx v l t fr0 ph0 : Int32} {kn ph : Int} {bg : Bool} {nt o k : Nat} {R : List m_F} {q : Bool} {kd vl : Nat → Int32} {w : Int}
theorem fI_sm (m : dg_sm shM WF WA S S1) (h : (0, k) ∉ WF) : fI S1 k = fI S k := by
  unfold fI
  rw [m.1 0 k _ sM_0 h]
theorem TFM.keep (h : TFM kn ph bg nt R o S) (m : dg_sm shM WF WA S S1) (h1 : (0, 42) ∉ WF) (h2 : (0, 43) ∉ WF) (h3 : (0, 45) ∉ WF) (k2 : 22 ∉ WA) (k3 : 23 ∉ WA) (k4 : 24 ∉ WA) (k6 : 26 ∉ WA) (k7 : 27 ∉ WA) : TFM kn ph bg nt R o S1 := by
  unfold TFM MSL at h ⊢
  rw [fI_sm m h1, fI_sm m h2, fI_sm m h3, (m.2 22 _ sM_22 k2).1, (m.2 23 _ sM_23 k3).1, (m.2 24 _ sM_24 k4).1, (m.2 26 _ sM_26 k6).1, (m.2 27 _ sM_27 k7).1]
  exact h
theorem TFM.ms (h : TFM kn ph bg nt R o S) : MSv S k q = (0, (kn, ph, bg, nt) :: R, o, k, q) := by
  unfold MSv
  rw [h.1, h.2.1]
theorem MSL_s {d : Nat} (f1 : S.1 0 42 = .int dp) (f3 : S.1 0 45 = .int om) (hd : dp.toNatClampNeg = d + 1) : MSL S = ((S.2.1 22 d).toInt, (S.2.1 23 d).toInt, decide ((S.2.1 24 d).toInt = 1), c_n (S.2.1 27) (S.2.1 26 d).toInt.toNat om.toNatClampNeg) :: c_L (S.2.1 22) (S.2.1 23) (S.2.1 24) (S.2.1 26) (S.2.1 27) d (S.2.1 26 d).toInt.toNat := by
  unfold MSL
  rw [fI_at f1, fI_at f3, hd]
  rfl
theorem TFM.inv (h : TFM kn ph bg nt R o S) (f1 : S.1 0 42 = .int dp) (f2 : S.1 0 43 = .int on) (f3 : S.1 0 45 = .int om) : ∃ d : Nat, dp.toNatClampNeg = d + 1 ∧ kn = (S.2.1 22 d).toInt ∧ ph = (S.2.1 23 d).toInt ∧ bg = decide ((S.2.1 24 d).toInt = 1) ∧ nt = c_n (S.2.1 27) (S.2.1 26 d).toInt.toNat om.toNatClampNeg ∧ R = c_L (S.2.1 22) (S.2.1 23) (S.2.1 24) (S.2.1 26) (S.2.1 27) d (S.2.1 26 d).toInt.toNat ∧ on.toNatClampNeg = o ∧ (S.2.1 26 d).toInt.toNat ≤ om.toNatClampNeg ∧ c_ok (S.2.1 26) d (S.2.1 26 d).toInt.toNat := by
  obtain ⟨a, b, c⟩ := h
  rw [fI_at f2] at b
  rw [fI_at f1, fI_at f3] at c
  cases hd : dp.toNatClampNeg with
  | zero =>
    unfold MSL at a
    rw [fI_at f1, hd] at a
    cases a
  | succ d =>
    rw [MSL_s f1 f3 hd] at a
    rw [hd] at c
    injection a with a1 a2
    injection a1 with a3 a4
    injection a4 with a5 a6
    injection a6 with a7 a8
    exact ⟨d, rfl, a3.symm, a5.symm, a7.symm, a8.symm, a2.symm, b, c.1, c.2⟩
theorem TFM.mk {d : Nat} (f1 : S.1 0 42 = .int dp) (f2 : S.1 0 43 = .int on) (f3 : S.1 0 45 = .int om) (hd : dp.toNatClampNeg = d + 1) (e1 : (S.2.1 22 d).toInt = kn) (e2 : (S.2.1 23 d).toInt = ph) (e3 : decide ((S.2.1 24 d).toInt = 1) = bg) (e4 : c_n (S.2.1 27) (S.2.1 26 d).toInt.toNat om.toNatClampNeg = nt) (e5 : c_L (S.2.1 22) (S.2.1 23) (S.2.1 24) (S.2.1 26) (S.2.1 27) d (S.2.1 26 d).toInt.toNat = R) (e6 : on.toNatClampNeg = o) (hb : (S.2.1 26 d).toInt.toNat ≤ om.toNatClampNeg) (hk : c_ok (S.2.1 26) d (S.2.1 26 d).toInt.toNat) : TFM kn ph bg nt R o S := by
  refine ⟨?_, ?_, ?_⟩
  · rw [MSL_s f1 f3 hd, e1, e2, e3, e4, e5]
  · rw [fI_at f2]; exact e6
  · rw [fI_at f1, fI_at f3, hd]; exact ⟨hb, hk⟩
theorem TFM.start {op : Int} (h : PSM S op) (f1 : S.1 0 42 = .int dp) (f2 : S.1 0 43 = .int on) (f3 : S.1 0 45 = .int om) (hf : fx.toInt = dp.toInt - 1) (r22 : S.2.1 22 fx.toNatClampNeg = fr0) (r23 : S.2.1 23 fx.toNatClampNeg = ph0) : ∃ (nt : Nat) (R : List m_F), TFM fr0.toInt ph0.toInt (decide ((S.2.1 24 fx.toNatClampNeg).toInt = 1)) nt R on.toNatClampNeg S := by
  obtain ⟨a1, a2, a3, a4, a5⟩ := h dp on om f1 f2 f3
  have hc := c_ok_of a1
  have dd := PSM.dims h f1 f2 f3
  have e1 := dk_clN dp
  have e2 := dk_clN fx
  have hd : dp.toNatClampNeg = fx.toNatClampNeg + 1 := by omega
  rw [hd] at hc
  exact ⟨_, _, TFM.mk f1 f2 f3 hd (by rw [r22]) (by rw [r23]) rfl rfl rfl rfl hc.1 hc.2⟩
/-- the top frame anew -/
theorem TFM.anew (h : TFM kn ph bg nt R o S) (f1 : S.1 0 42 = .int dp) (f2 : S.1 0 43 = .int on) (f3 : S.1 0 45 = .int om) (g1 : S1.1 0 42 = .int dp) (g2 : S1.1 0 43 = .int on') (g3 : S1.1 0 45 = .int om') (h22 : ∀ j, j + 1 < dp.toNatClampNeg → S1.2.1 22 j = S.2.1 22 j) (h23 : ∀ j, j + 1 < dp.toNatClampNeg → S1.2.1 23 j = S.2.1 23 j) (h24 : ∀ j, j + 1 < dp.toNatClampNeg → S1.2.1 24 j = S.2.1 24 j) (h26 : S1.2.1 26 = S.2.1 26) (h27 : ∀ j, j < (S.2.1 26 (dp.toNatClampNeg - 1)).toInt.toNat → S1.2.1 27 j = S.2.1 27 j) (hb : (S.2.1 26 (dp.toNatClampNeg - 1)).toInt.toNat ≤ om'.toNatClampNeg) : TFM (S1.2.1 22 (dp.toNatClampNeg - 1)).toInt (S1.2.1 23 (dp.toNatClampNeg - 1)).toInt (decide ((S1.2.1 24 (dp.toNatClampNeg - 1)).toInt = 1)) (c_n (S1.2.1 27) (S.2.1 26 (dp.toNatClampNeg - 1)).toInt.toNat om'.toNatClampNeg) R on'.toNatClampNeg S1 := by
  obtain ⟨d, hd, a1, a2, a3, a4, a5, a6, a7, a8⟩ := h.inv f1 f2 f3
  rw [hd, Nat.add_sub_cancel] at h27 hb ⊢
  rw [hd] at h22 h23 h24
  refine TFM.mk g1 g2 g3 hd rfl rfl rfl (by rw [h26]) ?_ rfl (by rw [h26]; exact hb) (by rw [h26]; exact a8)
  rw [h26, a5]
  exact c_L_congr d _ a8 (fun j hj => ⟨h22 j (by omega), h23 j (by omega), h24 j (by omega), rfl⟩) h27
theorem TFM.bg' (h : TFM kn ph bg nt R o S) (f1 : S.1 0 42 = .int dp) (f2 : S.1 0 43 = .int on) (f3 : S.1 0 45 = .int om) (hf : fx.toInt = dp.toInt - 1) (hd : 1 ≤ dp.toInt) (e : S1 = dg_uf S 24 (upd (S.2.1 24) fx.toNatClampNeg v)) : TFM kn ph (decide (v.toInt = 1)) nt R o S1 := by
  obtain ⟨d, hd, a1, a2, a3, a4, a5, a6, a7, a8⟩ := h.inv f1 f2 f3
  have e1 := dk_clN dp
  have e2 := dk_clN fx
  have ef : fx.toNatClampNeg = d := by omega
  rw [ef] at e
  refine TFM.mk (by rw [dg_uf_F e]; exact f1) (by rw [dg_uf_F e]; exact f2) (by rw [dg_uf_F e]; exact f3) hd (by rw [dg_uf_ne e (by decide)]; exact a1.symm) (by rw [dg_uf_ne e (by decide)]; exact a2.symm) (by rw [dg_uf_at e, dk_upd_s]) (by rw [dg_uf_ne (a := 27) e (by decide), dg_uf_ne (a := 26) e (by decide)]; exact a4.symm) ?_ a6 (by rw [dg_uf_ne (a := 26) e (by decide)]; exact a7) (by rw [dg_uf_ne (a := 26) e (by decide)]; exact a8)
  rw [dg_uf_ne (a := 26) e (by decide), dg_uf_ne (a := 22) e (by decide), dg_uf_ne (a := 23) e (by decide), dg_uf_ne (a := 27) e (by decide), a5]
  exact c_L_congr d _ a8 (fun j hj => ⟨rfl, rfl, by rw [dg_uf_at e, dk_upd_o (by omega)], rfl⟩) (fun _ _ => rfl)
theorem TFM.ph' (h : TFM kn ph bg nt R o S) (f1 : S.1 0 42 = .int dp) (f2 : S.1 0 43 = .int on) (f3 : S.1 0 45 = .int om) (hf : fx.toInt = dp.toInt - 1) (hd : 1 ≤ dp.toInt) (e : S1 = dg_uf S 23 (upd (S.2.1 23) fx.toNatClampNeg v)) : TFM kn v.toInt bg nt R o S1 := by
  obtain ⟨d, hd, a1, a2, a3, a4, a5, a6, a7, a8⟩ := h.inv f1 f2 f3
  have e1 := dk_clN dp
  have e2 := dk_clN fx
  have ef : fx.toNatClampNeg = d := by omega
  rw [ef] at e
  refine TFM.mk (by rw [dg_uf_F e]; exact f1) (by rw [dg_uf_F e]; exact f2) (by rw [dg_uf_F e]; exact f3) hd (by rw [dg_uf_ne e (by decide)]; exact a1.symm) (by rw [dg_uf_at e, dk_upd_s]) (by rw [dg_uf_ne e (by decide)]; exact a3.symm) (by rw [dg_uf_ne (a := 27) e (by decide), dg_uf_ne (a := 26) e (by decide)]; exact a4.symm) ?_ a6 (by rw [dg_uf_ne (a := 26) e (by decide)]; exact a7) (by rw [dg_uf_ne (a := 26) e (by decide)]; exact a8)
  rw [dg_uf_ne (a := 26) e (by decide), dg_uf_ne (a := 22) e (by decide), dg_uf_ne (a := 24) e (by decide), dg_uf_ne (a := 27) e (by decide), a5]
  exact c_L_congr d _ a8 (fun j hj => ⟨rfl, by rw [dg_uf_at e, dk_upd_o (by omega)], rfl, rfl⟩) (fun _ _ => rfl)
theorem TFM.fr' (h : TFM kn ph bg nt R o S) (f1 : S.1 0 42 = .int dp) (f2 : S.1 0 43 = .int on) (f3 : S.1 0 45 = .int om) (hf : fx.toInt = dp.toInt - 1) (hd : 1 ≤ dp.toInt) (e : S1 = dg_uf S 22 (upd (S.2.1 22) fx.toNatClampNeg v)) : TFM v.toInt ph bg nt R o S1 := by
  obtain ⟨d, hd, a1, a2, a3, a4, a5, a6, a7, a8⟩ := h.inv f1 f2 f3
  have e1 := dk_clN dp
  have e2 := dk_clN fx
  have ef : fx.toNatClampNeg = d := by omega
  rw [ef] at e
  refine TFM.mk (by rw [dg_uf_F e]; exact f1) (by rw [dg_uf_F e]; exact f2) (by rw [dg_uf_F e]; exact f3) hd (by rw [dg_uf_at e, dk_upd_s]) (by rw [dg_uf_ne e (by decide)]; exact a2.symm) (by rw [dg_uf_ne e (by decide)]; exact a3.symm) (by rw [dg_uf_ne (a := 27) e (by decide), dg_uf_ne (a := 26) e (by decide)]; exact a4.symm) ?_ a6 (by rw [dg_uf_ne (a := 26) e (by decide)]; exact a7) (by rw [dg_uf_ne (a := 26) e (by decide)]; exact a8)
  rw [dg_uf_ne (a := 26) e (by decide), dg_uf_ne (a := 23) e (by decide), dg_uf_ne (a := 24) e (by decide), dg_uf_ne (a := 27) e (by decide), a5]
  exact c_L_congr d _ a8 (fun j hj => ⟨by rw [dg_uf_at e, dk_upd_o (by omega)], rfl, rfl, rfl⟩) (fun _ _ => rfl)
theorem TFM.op' (h : TFM kn ph bg nt R o S) (e : S1 = dg_uF S 0 43 (.int v)) : TFM kn ph bg nt R v.toNatClampNeg S1 := by
  have e1 : fI S1 42 = fI S 42 := by unfold fI; rw [dg_uF_ne e (fun z => absurd z.2 (by decide))]
  have e3 : fI S1 45 = fI S 45 := by unfold fI; rw [dg_uF_ne e (fun z => absurd z.2 (by decide))]
  obtain ⟨a, b, c⟩ := h
  refine ⟨?_, by rw [fI_at (dg_uF_at e)], by rw [dg_uF_f e, e1, e3]; exact c⟩
  unfold MSL at a ⊢
  rw [dg_uF_f e, dg_uF_f e, dg_uF_f e, dg_uF_f e, dg_uF_f e, e1, e3]
  exact a
theorem TFM.opp (h : TFM kn ph bg nt R o S) (f2 : S.1 0 43 = .int on) (e : S1 = dg_uF S 0 43 (.int v)) (hv : v.toInt = on.toInt + 1) (h0 : 0 ≤ on.toInt) : TFM kn ph bg nt R (o + 1) S1 := by
  have h2 := h.2.1
  rw [fI_at f2] at h2
  have e1 := dk_clN on
  have e2 := dk_clN v
  have h3 := h.op' e
  rwa [show v.toNatClampNeg = o + 1 by omega] at h3
theorem TFM.opm (h : TFM kn ph bg nt R o S) (f2 : S.1 0 43 = .int on) (e : S1 = dg_uF S 0 43 (.int v)) (hv : v.toInt = on.toInt - 1) : TFM kn ph bg nt R (o - 1) S1 := by
  have h2 := h.2.1
  rw [fI_at f2] at h2
  have e1 := dk_clN on
  have e2 := dk_clN v
  have h3 := h.op' e
  rwa [show v.toNatClampNeg = o - 1 by omega] at h3
theorem MSv.uF46 {k : Nat} (e : S1 = dg_uF S 0 46 (.int v)) : MSv S1 k q = MSv S k q := by
  unfold MSv MSL fI
  rw [dg_uF_f e, dg_uF_f e, dg_uF_f e, dg_uF_f e, dg_uF_f e, dg_uF_ne e (fun z => absurd z.2 (by decide)), dg_uF_ne e (fun z => absurd z.2 (by decide)), dg_uF_ne e (fun z => absurd z.2 (by decide))]
theorem TFM.hb (h : TFM kn ph bg nt R o S) (f1 : S.1 0 42 = .int dp) (f2 : S.1 0 43 = .int on) (f3 : S.1 0 45 = .int om) (h0 : 0 ≤ om.toInt) (m : dg_sm shM [(0, 45)] [27] S S1) (hb : HBM S S1 t) : TFM kn ph bg (nt + if t.toInt = 43 then 1 else 0) R o S1 := by
  obtain ⟨g27, om', g3, hom⟩ := hb om f3
  obtain ⟨d, hd, a1, a2, a3, a4, a5, a6, a7, a8⟩ := h.inv f1 f2 f3
  have eo : om'.toNatClampNeg = om.toNatClampNeg + 1 := by have e1 := dk_clN om; have e2 := dk_clN om'; omega
  have g26 := (m.2 26 _ sM_26 (by decide)).1
  refine TFM.mk (by rw [m.1 0 42 _ sM_0 (by decide)]; exact f1) (by rw [m.1 0 43 _ sM_0 (by decide)]; exact f2) g3 hd (by rw [(m.2 22 _ sM_22 (by decide)).1]; exact a1.symm) (by rw [(m.2 23 _ sM_23 (by decide)).1]; exact a2.symm) (by rw [(m.2 24 _ sM_24 (by decide)).1]; exact a3.symm) ?_ ?_ a6 (by rw [g26]; omega) (by rw [g26]; exact a8)
  · rw [g26, g27, eo, c_n_push a7, a4]
  · rw [g26, (m.2 22 _ sM_22 (by decide)).1, (m.2 23 _ sM_23 (by decide)).1, (m.2 24 _ sM_24 (by decide)).1, a5, g27]
    exact c_L_congr d _ a8 (fun j hj => ⟨rfl, rfl, rfl, rfl⟩) (fun j hj => dk_upd_o (by omega))
theorem TFM.frm (h : TFM kn ph bg nt R o S) (f1 : S.1 0 42 = .int dp) (f2 : S.1 0 43 = .int on) (f3 : S.1 0 45 = .int om) (hd0 : 0 ≤ dp.toInt) (ho0 : 0 ≤ on.toInt) (m : dg_sm shM WF WA S S1) (h45 : (0, 45) ∉ WF) (k7 : 27 ∉ WA) (hu : FRM S S1 t) : TFM t.toInt 0 true 0 ((kn, ph, bg, nt) :: R) (o + 1) S1 := by
  obtain ⟨hp, hq⟩ := hu
  obtain ⟨g22, g23, g24, g26, dp', g1, hdp⟩ := hp dp om f1 f3
  obtain ⟨hn7, on', g2, hon⟩ := hq on f2
  obtain ⟨hl, ho, hc⟩ := h
  rw [fI_at f2] at ho
  rw [fI_at f1, fI_at f3] at hc
  unfold MSL at hl
  rw [fI_at f1, fI_at f3] at hl
  have e1 := dk_clN dp
  have e2 := dk_clN dp'
  have e3 := dk_clN on
  have e4 := dk_clN on'
  have g27 := (m.2 27 _ sM_27 k7).1
  have z0 : (0 : Int32).toInt = 0 := by decide +kernel
  have z1 : (1 : Int32).toInt = 1 := by decide +kernel
  have eb : (S1.2.1 26 dp.toNatClampNeg).toInt.toNat = om.toNatClampNeg := by rw [g26, dk_upd_s]; rfl
  refine TFM.mk (d := dp.toNatClampNeg) g1 g2 (by rw [m.1 0 45 _ sM_0 h45]; exact f3) (by omega) (by rw [g22, dk_upd_s]) (by rw [g23, dk_upd_s]; exact z0) (by rw [g24, dk_upd_s, z1]; rfl) (by rw [eb]; exact c_n_nil) ?_ (by omega) (by rw [eb]; exact Nat.le_refl _) ?_
  · rw [eb, ← hl]
    exact c_L_congr _ _ hc (fun j hj => ⟨by rw [g22, dk_upd_o (by omega)], by rw [g23, dk_upd_o (by omega)], by rw [g24, dk_upd_o (by omega)], by rw [g26, dk_upd_o (by omega)]⟩) (fun j _ => by rw [g27])
  · rw [eb]
    have key : ∀ d hi, d ≤ dp.toNatClampNeg → c_ok (S.2.1 26) d hi → c_ok (S1.2.1 26) d hi := by
      intro d
      induction d with
      | zero => intro hi _ _; exact trivial
      | succ d ih =>
        intro hi h1 h2
        have e5 : S1.2.1 26 d = S.2.1 26 d := by rw [g26, dk_upd_o (by omega)]
        unfold c_ok at h2 ⊢
        rw [e5]
        exact ⟨h2.1, ih _ (by omega) h2.2⟩
    exact key _ _ (Nat.le_refl _) hc
/-- the first frame of a rule -/
theorem TFM.first (f1 : S.1 0 42 = .int dp) (f2 : S.1 0 43 = .int on) (f3 : S.1 0 45 = .int om) (hd : dp.toInt = 0) (ho : on.toInt = 0) (hm : om.toInt = 0) (m : dg_sm shM WF WA S S1) (h43 : (0, 43) ∉ WF) (h45 : (0, 45) ∉ WF) (hp : PUM S S1 t) : TFM t.toInt 0 true 0 [] 0 S1 := by
  obtain ⟨g22, g23, g24, g26, dp', g1, hdp⟩ := hp dp om f1 f3
  have e1 := dk_clN dp
  have e2 := dk_clN dp'
  have e3 := dk_clN on
  have e4 := dk_clN om
  have z0 : (0 : Int32).toInt = 0 := by decide +kernel
  have z1 : (1 : Int32).toInt = 1 := by decide +kernel
  have ed : dp.toNatClampNeg = 0 := by omega
  rw [ed] at g22 g23 g24 g26
  have eb : (S1.2.1 26 0).toInt.toNat = om.toNatClampNeg := by rw [g26, dk_upd_s]; rfl
  exact TFM.mk (d := 0) g1 (by rw [m.1 0 43 _ sM_0 h43]; exact f2) (by rw [m.1 0 45 _ sM_0 h45]; exact f3) (by omega) (by rw [g22, dk_upd_s]) (by rw [g23, dk_upd_s]; exact z0) (by rw [g24, dk_upd_s, z1]; rfl) (by rw [eb]; exact c_n_nil) rfl (by omega) (by rw [eb]; exact Nat.le_refl _) trivial
/-- what joins() pops: all of rank l or more, how many NOTs -/
def JNM (S S1 : dg_S) (l : Int32) : Prop := ∀ dp on om : Int32, S.1 0 42 = .int dp → S.1 0 43 = .int on → S.1 0 45 = .int om → ∃ on' om' : Int32, S1.1 0 43 = .int on' ∧ S1.1 0 45 = .int om' ∧ (S.2.1 26 (dp.toNatClampNeg - 1)).toInt.toNat ≤ om'.toNatClampNeg ∧ om'.toNatClampNeg ≤ om.toNatClampNeg ∧ on'.toInt = on.toInt - (c_n (S.2.1 27) om'.toNatClampNeg om.toNatClampNeg : Int) ∧ ∀ j : Nat, om'.toNatClampNeg ≤ j → j < om.toNatClampNeg → l.toInt ≤ dk_rk (S.2.1 27 j).toInt
theorem JNM.z {op : Int} (h : PSM S op) (g2 : S1.1 0 43 = S.1 0 43) (g3 : S1.1 0 45 = S.1 0 45) : JNM S S1 l := by
  intro dp on om f1 f2 f3
  obtain ⟨a1, a2, a3, a4, a5⟩ := h dp on om f1 f2 f3
  refine ⟨on, om, g2.trans f2, g3.trans f3, a1.top.2.1, Nat.le_refl _, ?_, fun j h1 h2 => absurd h2 (by omega)⟩
  rw [c_n_nil]
  omega
theorem JNM.st (h : JNM S S1 l) (f1 : S.1 0 42 = .int dp) (f2 : S1.1 0 43 = .int on) (f3 : S1.1 0 45 = .int om) (hb : (S.2.1 26 (dp.toNatClampNeg - 1)).toInt.toNat < om.toNatClampNeg) (hv : S.2.1 27 om'.toNatClampNeg = v) (hr : l.toInt ≤ dk_rk v.toInt) (g2 : S2.1 0 43 = .int on') (g3 : S2.1 0 45 = .int om') (hom : om'.toInt = om.toInt - 1) (hon : on'.toInt = on.toInt - (if v.toInt = 43 then 1 else 0)) : JNM S S2 l := by
  intro dp0 on0 om0 q1 q2 q3
  cases f1.symm.trans q1
  obtain ⟨x, y, c1, c2, c3, c4, c5, c6⟩ := h dp on0 om0 f1 q2 q3
  cases f2.symm.trans c1
  cases f3.symm.trans c2
  have e1 := dk_clN om
  have e2 := dk_clN om'
  have eo : om.toNatClampNeg = om'.toNatClampNeg + 1 := by omega
  have k := dk_cnt_s (S.2.1 27) 43 om'.toNatClampNeg
  have mn := dk_cnt_mono (f := S.2.1 27) (k := 43) c4
  refine ⟨on', om', g2, g3, by omega, by omega, ?_, fun j h1 h2 => ?_⟩
  · unfold c_n at c5 ⊢
    rw [eo] at c5 mn
    rw [hv] at k
    rcases k with ⟨k1, k2⟩ | ⟨k1, k2⟩
    · rw [if_pos k1] at hon
      omega
    · rw [if_neg k1] at hon
      omega
  · by_cases z : j = om'.toNatClampNeg
    · rw [z, hv]; exact hr
    · exact c6 j (by omega) h2
theorem JNM.sx {bi b ti tv : Int32} (h : JNM S S1 l) (f1 : S.1 0 42 = .int dp) (f2 : S1.1 0 43 = .int on) (f3 : S1.1 0 45 = .int om) (hbi : bi.toInt = dp.toInt - 1) (hbv : S.2.1 26 bi.toNatClampNeg = b) (hb : b.toInt < om.toInt) (h0 : 0 ≤ om'.toInt) (ht : S.2.1 27 ti.toNatClampNeg = tv) (hti : ti.toInt = om.toInt - 1) (hr : l.toInt ≤ dk_rk tv.toInt) (hv : S.2.1 27 om'.toNatClampNeg = v) (g2 : S2.1 0 43 = .int on') (g3 : S2.1 0 45 = .int om') (hom : om'.toInt = om.toInt - 1) (hon : (v.toInt = 43 ∧ on'.toInt = on.toInt - 1) ∨ (v.toInt ≠ 43 ∧ on'.toInt = on.toInt)) : JNM S S2 l := by
  have e1 := dk_clN om
  have e2 := dk_clN om'
  have e3 := dk_clN ti
  have e4 := dk_clN bi
  have e5 := dk_clN dp
  have et : ti.toNatClampNeg = om'.toNatClampNeg := by omega
  have ev : v = tv := by rw [← hv, ← ht, et]
  refine h.st f1 f2 f3 ?_ hv (by rw [ev]; exact hr) g2 g3 hom ?_
  · rw [show dp.toNatClampNeg - 1 = bi.toNatClampNeg by omega, hbv]
    omega
  · rcases hon with ⟨a, b⟩ | ⟨a, b⟩
    · rw [if_pos a]; exact b
    · rw [if_neg a]; omega
theorem TFM.join (h : TFM kn ph bg nt R o S) {op : Int} (P : PSM S op) (f1 : S.1 0 42 = .int dp) (f2 : S.1 0 43 = .int on) (f3 : S.1 0 45 = .int om) (J : JNM S S1 l) (top : TOPM S1 l) (m : dg_sm shM WF WA S S1) (h42 : (0, 42) ∉ WF) (k2 : 22 ∉ WA) (k3 : 23 ∉ WA) (k4 : 24 ∉ WA) (k6 : 26 ∉ WA) (k7 : 27 ∉ WA) : (4 ≤ l.toInt → TFM kn ph bg nt R o S1) ∧ (1 ≤ l.toInt → l.toInt ≤ 3 → TFM kn ph bg 0 R (o - nt) S1) := by
  obtain ⟨d, hd, a1, a2, a3, a4, a5, a6, a7, a8⟩ := h.inv f1 f2 f3
  obtain ⟨on', om', c1, c2, c3, c4, c5, c6⟩ := J dp on om f1 f2 f3
  obtain ⟨p1, p2, p3, p4, p5⟩ := P dp on om f1 f2 f3
  obtain ⟨b1, b2, b3, b4, b5⟩ := p1.top
  have g42 : S1.1 0 42 = .int dp := by rw [m.1 0 42 _ sM_0 h42]; exact f1
  have g26 := (m.2 26 _ sM_26 k6).1
  have g27 := (m.2 27 _ sM_27 k7).1
  have top := top dp om' g42 c2
  rw [hd, Nat.add_sub_cancel] at c3 top b4 b2
  rw [g26, g27] at top
  have mk : ∀ nt' o' : Nat, c_n (S.2.1 27) (S.2.1 26 d).toInt.toNat om'.toNatClampNeg = nt' → on'.toNatClampNeg = o' → TFM kn ph bg nt' R o' S1 := by
    intro nt' o' q1 q2
    refine TFM.mk g42 c1 c2 hd (by rw [(m.2 22 _ sM_22 k2).1]; exact a1.symm) (by rw [(m.2 23 _ sM_23 k3).1]; exact a2.symm) (by rw [(m.2 24 _ sM_24 k4).1]; exact a3.symm) (by rw [g26, g27]; exact q1) ?_ q2 (by rw [g26]; exact c3) (by rw [g26]; exact a8)
    rw [g26, g27, (m.2 22 _ sM_22 k2).1, (m.2 23 _ sM_23 k3).1, (m.2 24 _ sM_24 k4).1, a5]
  have e1 := dk_clN on
  have e2 := dk_clN on'
  have mn1 := dk_cnt_mono (f := S.2.1 27) (k := 43) c3
  have mn2 := dk_cnt_mono (f := S.2.1 27) (k := 43) c4
  refine ⟨fun hl => ?_, fun hl0 hl => ?_⟩
  · have hn : ∀ j, om'.toNatClampNeg ≤ j → j < om.toNatClampNeg → (S.2.1 27 j).toInt ≠ 43 := by
      intro j h1 h2 q
      have h3 := c6 j h1 h2
      have r := dk_rl (S.2.1 27 j).toInt
      omega
    refine mk nt o ?_ ?_
    · rw [c_n_pop c3 c4 hn]; exact a4.symm
    · rw [c_n_none c4 hn] at c5
      omega
  · have hz : c_n (S.2.1 27) (S.2.1 26 d).toInt.toNat om'.toNatClampNeg = 0 := by
      refine c_n_none c3 (fun j h1 h2 q => ?_)
      rcases top with z | z
      · omega
      · have h3 := (b4 j h1 (by omega)).2.2.1 (om'.toNatClampNeg - 1) (by omega) (by omega)
        have r := dk_rl (S.2.1 27 j).toInt
        omega
    refine mk 0 (o - nt) hz ?_
    unfold c_n at c5 hz a4
    omega
theorem TFM.pop (h : TFM kn ph bg nt R o S) {op : Int} (P : PSM S op) (f1 : S.1 0 42 = .int dp) (f2 : S.1 0 43 = .int on) (f3 : S.1 0 45 = .int om) (top : TOPM S l) (hl : l.toInt = 1) (e : S1 = dg_uF S 0 42 (.int dp')) (hdp : dp'.toInt = dp.toInt - 1) (hk : 2 ≤ kn) : ∃ (a b : Int) (c : Bool) (n : Nat) (R' : List m_F), R = (a, b, c, n) :: R' ∧ TFM a b c n R' o S1 := by
  obtain ⟨d, hd, a1, a2, a3, a4, a5, a6, a7, a8⟩ := h.inv f1 f2 f3
  obtain ⟨p1, p2, p3, p4, p5⟩ := P dp on om f1 f2 f3
  obtain ⟨b1, b2, b3, b4, b5⟩ := p1.top
  have top := top dp om f1 f3
  rw [hd, Nat.add_sub_cancel] at top b5
  have e1 := dk_clN dp
  have e2 := dk_clN dp'
  have eb : om.toNatClampNeg = (S.2.1 26 d).toInt.toNat := by
    rcases top with z | z
    · exact z
    · have r := dk_rl (S.2.1 27 (om.toNatClampNeg - 1)).toInt
      omega
  have hd0 : d ≠ 0 := fun z => by
    have h0 := b5.1 z
    omega
  obtain ⟨d1, rfl⟩ : ∃ d1, d = d1 + 1 := ⟨d - 1, by omega⟩
  have hd1 : dp'.toNatClampNeg = d1 + 1 := by omega
  have g1 : S1.1 0 42 = .int dp' := dg_uF_at e
  have g2 : S1.1 0 43 = .int on := by rw [dg_uF_ne e (fun z => absurd z.2 (by decide))]; exact f2
  have g3 : S1.1 0 45 = .int om := by rw [dg_uF_ne e (fun z => absurd z.2 (by decide))]; exact f3
  refine ⟨_, _, _, _, _, a5, TFM.mk g1 g2 g3 hd1 (by rw [dg_uF_f e]) (by rw [dg_uF_f e]) (by rw [dg_uF_f e]) (by rw [dg_uF_f e, dg_uF_f e, eb]) (by rw [dg_uF_f e, dg_uF_f e, dg_uF_f e, dg_uF_f e, dg_uF_f e]) a6 (by rw [dg_uF_f e, eb]; exact a8.1) (by rw [dg_uF_f e]; exact a8.2)⟩
end TF
