section
/-! the frames of a state, as the machine of frames has them -/
def fI (S : dg_S) (k : Nat) : Int32 := match S.1 0 k with
  | .int x => x
  | _ => 0
theorem fI_at {S : dg_S} {k : Nat} {x : Int32} (h : S.1 0 k = .int x) : fI S k = x := by
  unfold fI
  rw [h]
def MSL (S : dg_S) : List m_F := c_L (S.2.1 22) (S.2.1 23) (S.2.1 24) (S.2.1 26) (S.2.1 27) (fI S 42).toNatClampNeg (fI S 45).toNatClampNeg
def MSv (S : dg_S) (k : Nat) (q : Bool) : m_S := (0, MSL S, (fI S 43).toNatClampNeg, k, q)
/-- the top frame, those below it, how many brackets -/
def TFM (kn ph : Int) (bg : Bool) (nt : Nat) (R : List m_F) (o : Nat) (S : dg_S) : Prop := MSL S = (kn, ph, bg, nt) :: R ∧ (fI S 43).toNatClampNeg = o ∧ c_ok (S.2.1 26) (fI S 42).toNatClampNeg (fI S 45).toNatClampNeg
section TF
variable {S S1 S2 : dg_S} {WF : List (Nat × Nat)} {WA : List Nat} {dp on om dp' on' om' fx v l t fr0 ph0 : Int32} {kn ph : Int} {bg : Bool} {nt o k : Nat} {R : List m_F} {q : Bool} {kd vl : Nat → Int32} {w : Int}
theorem fI_sm (m : dg_sm shM WF WA S S1) (h : (0, k) ∉ WF) : fI S1 k = fI S k := by
  unfold fI
  rw [m.1 0 k _ sM_0 h]
theorem TFM.keep (h : TFM kn ph bg nt R o S) (m : dg_sm shM WF WA S S1) (h1 : (0, 42) ∉ WF) (h2 : (0, 43) ∉ WF) (h3 : (0, 45) ∉ WF) (k2 : 22 ∉ WA) (k3 : 23 ∉ WA) (k4 : 24 ∉ WA) (k6 : 26 ∉ WA) (k7 : 27 ∉ WA) : TFM kn ph bg nt R o S1 := by
  unfold TFM MSL at h ⊢
  rw [fI_sm m h1, fI_sm m h2, fI_sm m h3, (m.2 22 _ sM_22 k2).1, (m.2 23 _ sM_23 k3).1, (m.2 24 _ sM_24 k4).1, (m.2 26 _ sM_26 k6).1, (m.2 27 _ sM_27 k7).1]
  exact h
theorem TFM.ms (h : TFM kn ph bg nt R o S) : MSv S k q = (0, (kn, ph, bg, nt) :: R, o, k, q) := by
  unfold MSv
  rw [h.1, h.2.1]
theorem MSL_s {d : Nat} (f1 : S.1 0 42 = .int dp) (f3 : S.1 0 45 = .int om) (hd : dp.toNatClampNeg = d + 1) : MSL S = ((S.2.1 22 d).toInt, (S.2.1 23 d).toInt, decide ((S.2.1 24 d).toInt = 1), c_n (S.2.1 27) (S.2.1 26 d).toInt.toNat om.toNatClampNeg) :: c_L (S.2.1 22) (S.2.1 23) (S.2.1 24) (S.2.1 26) (S.2.1 27) d (S.2.1 26 d).toInt.toNat := by
  unfold MSL
  rw [fI_at f1, fI_at f3, hd]
  rfl
theorem TFM.inv (h : TFM kn ph bg nt R o S) (f1 : S.1 0 42 = .int dp) (f2 : S.1 0 43 = .int on) (f3 : S.1 0 45 = .int om) : ∃ d : Nat, dp.toNatClampNeg = d + 1 ∧ kn = (S.2.1 22 d).toInt ∧ ph = (S.2.1 23 d).toInt ∧ bg = decide ((S.2.1 24 d).toInt = 1) ∧ nt = c_n (S.2.1 27) (S.2.1 26 d).toInt.toNat om.toNatClampNeg ∧ R = c_L (S.2.1 22) (S.2.1 23) (S.2.1 24) (S.2.1 26) (S.2.1 27) d (S.2.1 26 d).toInt.toNat ∧ on.toNatClampNeg = o ∧ (S.2.1 26 d).toInt.toNat ≤ om.toNatClampNeg ∧ c_ok (S.2.1 26) d (S.2.1 26 d).toInt.toNat := by
  obtain ⟨a, b, c⟩ := h
  rw [fI_at f2] at b
  rw [fI_at f1, fI_at f3] at c
  cases hd : dp.toNatClampNeg with
  | zero =>
    unfold MSL at a
    rw [fI_at f1, hd] at a
    cases a
  | succ d =>
    rw [MSL_s f1 f3 hd] at a
    rw [hd] at c
    injection a with a1 a2
    injection a1 with a3 a4
    injection a4 with a5 a6
    injection a6 with a7 a8
    exact ⟨d, rfl, a3.symm, a5.symm, a7.symm, a8.symm, a2.symm, b, c.1, c.2⟩
theorem TFM.mk {d : Nat} (f1 : S.1 0 42 = .int dp) (f2 : S.1 0 43 = .int on) (f3 : S.1 0 45 = .int om) (hd : dp.toNatClampNeg = d + 1) (e1 : (S.2.1 22 d).toInt = kn) (e2 : (S.2.1 23 d).toInt = ph) (e3 : decide ((S.2.1 24 d).toInt = 1) = bg) (e4 : c_n (S.2.1 27) (S.2.1 26 d).toInt.toNat om.toNatClampNeg = nt) (e5 : c_L (S.2.1 22) (S.2.1 23) (S.2.1 24) (S.2.1 26) (S.2.1 27) d (S.2.1 26 d).toInt.toNat = R) (e6 : on.toNatClampNeg = o) (hb : (S.2.1 26 d).toInt.toNat ≤ om.toNatClampNeg) (hk : c_ok (S.2.1 26) d (S.2.1 26 d).toInt.toNat) : TFM kn ph bg nt R o S := by
  refine ⟨?_, ?_, ?_⟩
  · rw [MSL_s f1 f3 hd, e1, e2, e3, e4, e5]
  · rw [fI_at f2]; exact e6
  · rw [fI_at f1, fI_at f3, hd]; exact ⟨hb, hk⟩
theorem TFM.start {op : Int} (h : PSM S op) (f1 : S.1 0 42 = .int dp) (f2 : S.1 0 43 = .int on) (f3 : S.1 0 45 = .int om) (hf : fx.toInt = dp.toInt - 1) (r22 : S.2.1 22 fx.toNatClampNeg = fr0) (r23 : S.2.1 23 fx.toNatClampNeg = ph0) : ∃ (nt : Nat) (R : List m_F), TFM fr0.toInt ph0.toInt (decide ((S.2.1 24 fx.toNatClampNeg).toInt = 1)) nt R on.toNatClampNeg S := by
  obtain ⟨a1, a2, a3, a4, a5⟩ := h dp on om f1 f2 f3
  have hc := c_ok_of a1
  have dd := PSM.dims h f1 f2 f3
  have e1 := dk_clN dp
  have e2 := dk_clN fx
  have hd : dp.toNatClampNeg = fx.toNatClampNeg + 1 := by omega
  rw [hd] at hc
  exact ⟨_, _, TFM.mk f1 f2 f3 hd (by rw [r22]) (by rw [r23]) rfl rfl rfl rfl hc.1 hc.2⟩
/-- the top frame anew -/
theorem TFM.anew (h : TFM kn ph bg nt R o S) (f1 : S.1 0 42 = .int dp) (f2 : S.1 0 43 = .int on) (f3 : S.1 0 45 = .int om) (g1 : S1.1 0 42 = .int dp) (g2 : S1.1 0 43 = .int on') (g3 : S1.1 0 45 = .int om') (h22 : ∀ j, j + 1 < dp.toNatClampNeg → S1.2.1 22 j = S.2.1 22 j) (h23 : ∀ j, j + 1 < dp.toNatClampNeg → S1.2.1 23 j = S.2.1 23 j) (h24 : ∀ j, j + 1 < dp.toNatClampNeg → S1.2.1 24 j = S.2.1 24 j) (h26 : S1.2.1 26 = S.2.1 26) (h27 : ∀ j, j < (S.2.1 26 (dp.toNatClampNeg - 1)).toInt.toNat → S1.2.1 27 j = S.2.1 27 j) (hb : (S.2.1 26 (dp.toNatClampNeg - 1)).toInt.toNat ≤ om'.toNatClampNeg) : TFM (S1.2.1 22 (dp.toNatClampNeg - 1)).toInt (S1.2.1 23 (dp.toNatClampNeg - 1)).toInt (decide ((S1.2.1 24 (dp.toNatClampNeg - 1)).toInt = 1)) (c_n (S1.2.1 27) (S.2.1 26 (dp.toNatClampNeg - 1)).toInt.toNat om'.toNatClampNeg) R on'.toNatClampNeg S1 := by
  obtain ⟨d, hd, a1, a2, a3, a4, a5, a6, a7, a8⟩ := h.inv f1 f2 f3
  rw [hd, Nat.add_sub_cancel] at h27 hb ⊢
  rw [hd] at h22 h23 h24
  refine TFM.mk g1 g2 g3 hd rfl rfl rfl (by rw [h26]) ?_ rfl (by rw [h26]; exact hb) (by rw [h26]; exact a8)
  rw [h26, a5]
  exact c_L_congr d _ a8 (fun j hj => ⟨h22 j (by omega), h23 j (by omega), h24 j (by omega), rfl⟩) h27
theorem TFM.bg' (h : TFM kn ph bg nt R o S) (f1 : S.1 0 42 = .int dp) (f2 : S.1 0 43 = .int on) (f3 : S.1 0 45 = .int om) (hf : fx.toInt = dp.toInt - 1) (hd : 1 ≤ dp.toInt) (e : S1 = dg_uf S 24 (upd (S.2.1 24) fx.toNatClampNeg v)) : TFM kn ph (decide (v.toInt = 1)) nt R o S1 := by
  obtain ⟨d, hd, a1, a2, a3, a4, a5, a6, a7, a8⟩ := h.inv f1 f2 f3
  have e1 := dk_clN dp
  have e2 := dk_clN fx
  have ef : fx.toNatClampNeg = d := by omega
  rw [ef] at e
  refine TFM.mk (by rw [dg_uf_F e]; exact f1) (by rw [dg_uf_F e]; exact f2) (by rw [dg_uf_F e]; exact f3) hd (by rw [dg_uf_ne e (by decide)]; exact a1.symm) (by rw [dg_uf_ne e (by decide)]; exact a2.symm) (by rw [dg_uf_at e, dk_upd_s]) (by rw [dg_uf_ne (a := 27) e (by decide), dg_uf_ne (a := 26) e (by decide)]; exact a4.symm) ?_ a6 (by rw [dg_uf_ne (a := 26) e (by decide)]; exact a7) (by rw [dg_uf_ne (a := 26) e (by decide)]; exact a8)
  rw [dg_uf_ne (a := 26) e (by decide), dg_uf_ne (a := 22) e (by decide), dg_uf_ne (a := 23) e (by decide), dg_uf_ne (a := 27) e (by decide), a5]
  exact c_L_congr d _ a8 (fun j hj => ⟨rfl, rfl, by rw [dg_uf_at e, dk_upd_o (by omega)], rfl⟩) (fun _ _ => rfl)
theorem TFM.ph' (h : TFM kn ph bg nt R o S) (f1 : S.1 0 42 = .int dp) (f2 : S.1 0 43 = .int on) (f3 : S.1 0 45 = .int om) (hf : fx.toInt = dp.toInt - 1) (hd : 1 ≤ dp.toInt) (e : S1 = dg_uf S 23 (upd (S.2.1 23) fx.toNatClampNeg v)) : TFM kn v.toInt bg nt R o S1 := by
  obtain ⟨d, hd, a1, a2, a3, a4, a5, a6, a7, a8⟩ := h.inv f1 f2 f3
  have e1 := dk_clN dp
  have e2 := dk_clN fx
  have ef : fx.toNatClampNeg = d := by omega
  rw [ef] at e
  refine TFM.mk (by rw [dg_uf_F e]; exact f1) (by rw [dg_uf_F e]; exact f2) (by rw [dg_uf_F e]; exact f3) hd (by rw [dg_uf_ne e (by decide)]; exact a1.symm) (by rw [dg_uf_at e, dk_upd_s]) (by rw [dg_uf_ne e (by decide)]; exact a3.symm) (by rw [dg_uf_ne (a := 27) e (by decide), dg_uf_ne (a := 26) e (by decide)]; exact a4.symm) ?_ a6 (by rw [dg_uf_ne (a := 26) e (by decide)]; exact a7) (by rw [dg_uf_ne (a := 26) e (by decide)]; exact a8)
  rw [dg_uf_ne (a := 26) e (by decide), dg_uf_ne (a := 22) e (by decide), dg_uf_ne (a := 24) e (by decide), dg_uf_ne (a := 27) e (by decide), a5]
  exact c_L_congr d _ a8 (fun j hj => ⟨rfl, by rw [dg_uf_at e, dk_upd_o (by omega)], rfl, rfl⟩) (fun _ _ => rfl)
theorem TFM.fr' (h : TFM kn ph bg nt R o S) (f1 : S.1 0 42 = .int dp) (f2 : S.1 0 43 = .int on) (f3 : S.1 0 45 = .int om) (hf : fx.toInt = dp.toInt - 1) (hd : 1 ≤ dp.toInt) (e : S1 = dg_uf S 22 (upd (S.2.1 22) fx.toNatClampNeg v)) : TFM v.toInt ph bg nt R o S1 := by
  obtain ⟨d, hd, a1, a2, a3, a4, a5, a6, a7, a8⟩ := h.inv f1 f2 f3
  have e1 := dk_clN dp
  have e2 := dk_clN fx
  have ef : fx.toNatClampNeg = d := by omega
  rw [ef] at e
  refine TFM.mk (by rw [dg_uf_F e]; exact f1) (by rw [dg_uf_F e]; exact f2) (by rw [dg_uf_F e]; exact f3) hd (by rw [dg_uf_at e, dk_upd_s]) (by rw [dg_uf_ne e (by decide)]; exact a2.symm) (by rw [dg_uf_ne e (by decide)]; exact a3.symm) (by rw [dg_uf_ne (a := 27) e (by decide), dg_uf_ne (a := 26) e (by decide)]; exact a4.symm) ?_ a6 (by rw [dg_uf_ne (a := 26) e (by decide)]; exact a7) (by rw [dg_uf_ne (a := 26) e (by decide)]; exact a8)
  rw [dg_uf_ne (a := 26) e (by decide), dg_uf_ne (a := 23) e (by decide), dg_uf_ne (a := 24) e (by decide), dg_uf_ne (a := 27) e (by decide), a5]
  exact c_L_congr d _ a8 (fun j hj => ⟨by rw [dg_uf_at e, dk_upd_o (by omega)], rfl, rfl, rfl⟩) (fun _ _ => rfl)
theorem TFM.op' (h : TFM kn ph bg nt R o S) (e : S1 = dg_uF S 0 43 (.int v)) : TFM kn ph bg nt R v.toNatClampNeg S1 := by
  have e1 : fI S1 42 = fI S 42 := by unfold fI; rw [dg_uF_ne e (fun z => absurd z.2 (by decide))]
  have e3 : fI S1 45 = fI S 45 := by unfold fI; rw [dg_uF_ne e (fun z => absurd z.2 (by decide))]
  obtain ⟨a, b, c⟩ := h
  refine ⟨?_, by rw [fI_at (dg_uF_at e)], by rw [dg_uF_f e, e1, e3]; exact c⟩
  unfold MSL at a ⊢
  rw [dg_uF_f e, dg_uF_f e, dg_uF_f e, dg_uF_f e, dg_uF_f e, e1, e3]
  exact a
theorem TFM.opp (h : TFM kn ph bg nt R o S) (f2 : S.1 0 43 = .int on) (e : S1 = dg_uF S 0 43 (.int v)) (hv : v.toInt = on.toInt + 1) (h0 : 0 ≤ on.toInt) : TFM kn ph bg nt R (o + 1) S1 := by
  have h2 := h.2.1
  rw [fI_at f2] at h2
  have e1 := dk_clN on
  have e2 := dk_clN v
  have h3 := h.op' e
  rwa [show v.toNatClampNeg = o + 1 by omega] at h3
theorem TFM.opm (h : TFM kn ph bg nt R o S) (f2 : S.1 0 43 = .int on) (e : S1 = dg_uF S 0 43 (.int v)) (hv : v.toInt = on.toInt - 1) : TFM kn ph bg nt R (o - 1) S1 := by
  have h2 := h.2.1
  rw [fI_at f2] at h2
  have e1 := dk_clN on
  have e2 := dk_clN v
  have h3 := h.op' e
  rwa [show v.toNatClampNeg = o - 1 by omega] at h3
theorem MSv.uF46 {k : Nat} (e : S1 = dg_uF S 0 46 (.int v)) : MSv S1 k q = MSv S k q := by
  unfold MSv MSL fI
  rw [dg_uF_f e, dg_uF_f e, dg_uF_f e, dg_uF_f e, dg_uF_f e, dg_uF_ne e (fun z => absurd z.2 (by decide)), dg_uF_ne e (fun z => absurd z.2 (by decide)), dg_uF_ne e (fun z => absurd z.2 (by decide))]
theorem TFM.hb (h : TFM kn ph bg nt R o S) (f1 : S.1 0 42 = .int dp) (f2 : S.1 0 43 = .int on) (f3 : S.1 0 45 = .int om) (h0 : 0 ≤ om.toInt) (m : dg_sm shM [(0, 45)] [27] S S1) (hb : HBM S S1 t) : TFM kn ph bg (nt + if t.toInt = 43 then 1 else 0) R o S1 := by
  obtain ⟨g27, om', g3, hom⟩ := hb om f3
  obtain ⟨d, hd, a1, a2, a3, a4, a5, a6, a7, a8⟩ := h.inv f1 f2 f3
  have eo : om'.toNatClampNeg = om.toNatClampNeg + 1 := by have e1 := dk_clN om; have e2 := dk_clN om'; omega
  have g26 := (m.2 26 _ sM_26 (by decide)).1
  refine TFM.mk (by rw [m.1 0 42 _ sM_0 (by decide)]; exact f1) (by rw [m.1 0 43 _ sM_0 (by decide)]; exact f2) g3 hd (by rw [(m.2 22 _ sM_22 (by decide)).1]; exact a1.symm) (by rw [(m.2 23 _ sM_23 (by decide)).1]; exact a2.symm) (by rw [(m.2 24 _ sM_24 (by decide)).1]; exact a3.symm) ?_ ?_ a6 (by rw [g26]; omega) (by rw [g26]; exact a8)
  · rw [g26, g27, eo, c_n_push a7, a4]
  · rw [g26, (m.2 22 _ sM_22 (by decide)).1, (m.2 23 _ sM_23 (by decide)).1, (m.2 24 _ sM_24 (by decide)).1, a5, g27]
    exact c_L_congr d _ a8 (fun j hj => ⟨rfl, rfl, rfl, rfl⟩) (fun j hj => dk_upd_o (by omega))
theorem TFM.frm (h : TFM kn ph bg nt R o S) (f1 : S.1 0 42 = .int dp) (f2 : S.1 0 43 = .int on) (f3 : S.1 0 45 = .int om) (hd0 : 0 ≤ dp.toInt) (ho0 : 0 ≤ on.toInt) (m : dg_sm shM WF WA S S1) (h45 : (0, 45) ∉ WF) (k7 : 27 ∉ WA) (hu : FRM S S1 t) : TFM t.toInt 0 true 0 ((kn, ph, bg, nt) :: R) (o + 1) S1 := by
  obtain ⟨hp, hq⟩ := hu
  obtain ⟨g22, g23, g24, g26, dp', g1, hdp⟩ := hp dp om f1 f3
  obtain ⟨hn7, on', g2, hon⟩ := hq on f2
  obtain ⟨hl, ho, hc⟩ := h
  rw [fI_at f2] at ho
  rw [fI_at f1, fI_at f3] at hc
  unfold MSL at hl
  rw [fI_at f1, fI_at f3] at hl
  have e1 := dk_clN dp
  have e2 := dk_clN dp'
  have e3 := dk_clN on
  have e4 := dk_clN on'
  have g27 := (m.2 27 _ sM_27 k7).1
  have z0 : (0 : Int32).toInt = 0 := by decide +kernel
  have z1 : (1 : Int32).toInt = 1 := by decide +kernel
  have eb : (S1.2.1 26 dp.toNatClampNeg).toInt.toNat = om.toNatClampNeg := by rw [g26, dk_upd_s]; rfl
  refine TFM.mk (d := dp.toNatClampNeg) g1 g2 (by rw [m.1 0 45 _ sM_0 h45]; exact f3) (by omega) (by rw [g22, dk_upd_s]) (by rw [g23, dk_upd_s]; exact z0) (by rw [g24, dk_upd_s, z1]; rfl) (by rw [eb]; exact c_n_nil) ?_ (by omega) (by rw [eb]; exact Nat.le_refl _) ?_
  · rw [eb, ← hl]
    exact c_L_congr _ _ hc (fun j hj => ⟨by rw [g22, dk_upd_o (by omega)], by rw [g23, dk_upd_o (by omega)], by rw [g24, dk_upd_o (by omega)], by rw [g26, dk_upd_o (by omega)]⟩) (fun j _ => by rw [g27])
  · rw [eb]
    have key : ∀ d hi, d ≤ dp.toNatClampNeg → c_ok (S.2.1 26) d hi → c_ok (S1.2.1 26) d hi := by
      intro d
      induction d with
      | zero => intro hi _ _; exact trivial
      | succ d ih =>
        intro hi h1 h2
        have e5 : S1.2.1 26 d = S.2.1 26 d := by rw [g26, dk_upd_o (by omega)]
        unfold c_ok at h2 ⊢
        rw [e5]
        exact ⟨h2.1, ih _ (by omega) h2.2⟩
    exact key _ _ (Nat.le_refl _) hc
/-- the first frame of a rule -/
theorem TFM.first (f1 : S.1 0 42 = .int dp) (f2 : S.1 0 43 = .int on) (f3 : S.1 0 45 = .int om) (hd : dp.toInt = 0) (ho : on.toInt = 0) (hm : om.toInt = 0) (m : dg_sm shM WF WA S S1) (h43 : (0, 43) ∉ WF) (h45 : (0, 45) ∉ WF) (hp : PUM S S1 t) : TFM t.toInt 0 true 0 [] 0 S1 := by
  obtain ⟨g22, g23, g24, g26, dp', g1, hdp⟩ := hp dp om f1 f3
  have e1 := dk_clN dp
  have e2 := dk_clN dp'
  have e3 := dk_clN on
  have e4 := dk_clN om
  have z0 : (0 : Int32).toInt = 0 := by decide +kernel
  have z1 : (1 : Int32).toInt = 1 := by decide +kernel
  have ed : dp.toNatClampNeg = 0 := by omega
  rw [ed] at g22 g23 g24 g26
  have eb : (S1.2.1 26 0).toInt.toNat = om.toNatClampNeg := by rw [g26, dk_upd_s]; rfl
  exact TFM.mk (d := 0) g1 (by rw [m.1 0 43 _ sM_0 h43]; exact f2) (by rw [m.1 0 45 _ sM_0 h45]; exact f3) (by omega) (by rw [g22, dk_upd_s]) (by rw [g23, dk_upd_s]; exact z0) (by rw [g24, dk_upd_s, z1]; rfl) (by rw [eb]; exact c_n_nil) rfl (by omega) (by rw [eb]; exact Nat.le_refl _) trivial
/-- what joins() pops: all of rank l or more, how many NOTs -/
def JNM (S S1 : dg_S) (l : Int32) : Prop := ∀ dp on om : Int32, S.1 0 42 = .int dp → S.1 0 43 = .int on → S.1 0 45 = .int om → ∃ on' om' : Int32, S1.1 0 43 = .int on' ∧ S1.1 0 45 = .int om' ∧ (S.2.1 26 (dp.toNatClampNeg - 1)).toInt.toNat ≤ om'.toNatClampNeg ∧ om'.toNatClampNeg ≤ om.toNatClampNeg ∧ on'.toInt = on.toInt - (c_n (S.2.1 27) om'.toNatClampNeg om.toNatClampNeg : Int) ∧ ∀ j : Nat, om'.toNatClampNeg ≤ j → j < om.toNatClampNeg → l.toInt ≤ dk_rk (S.2.1 27 j).toInt
theorem JNM.z {op : Int} (h : PSM S op) (g2 : S1.1 0 43 = S.1 0 43) (g3 : S1.1 0 45 = S.1 0 45) : JNM S S1 l := by
  intro dp on om f1 f2 f3
  obtain ⟨a1, a2, a3, a4, a5⟩ := h dp on om f1 f2 f3
  refine ⟨on, om, g2.trans f2, g3.trans f3, a1.top.2.1, Nat.le_refl _, ?_, fun j h1 h2 => absurd h2 (by omega)⟩
  rw [c_n_nil]
  omega
theorem JNM.st (h : JNM S S1 l) (f1 : S.1 0 42 = .int dp) (f2 : S1.1 0 43 = .int on) (f3 : S1.1 0 45 = .int om) (hb : (S.2.1 26 (dp.toNatClampNeg - 1)).toInt.toNat < om.toNatClampNeg) (hv : S.2.1 27 om'.toNatClampNeg = v) (hr : l.toInt ≤ dk_rk v.toInt) (g2 : S2.1 0 43 = .int on') (g3 : S2.1 0 45 = .int om') (hom : om'.toInt = om.toInt - 1) (hon : on'.toInt = on.toInt - (if v.toInt = 43 then 1 else 0)) : JNM S S2 l := by
  intro dp0 on0 om0 q1 q2 q3
  cases f1.symm.trans q1
  obtain ⟨x, y, c1, c2, c3, c4, c5, c6⟩ := h dp on0 om0 f1 q2 q3
  cases f2.symm.trans c1
  cases f3.symm.trans c2
  have e1 := dk_clN om
  have e2 := dk_clN om'
  have eo : om.toNatClampNeg = om'.toNatClampNeg + 1 := by omega
  have k := dk_cnt_s (S.2.1 27) 43 om'.toNatClampNeg
  have mn := dk_cnt_mono (f := S.2.1 27) (k := 43) c4
  refine ⟨on', om', g2, g3, by omega, by omega, ?_, fun j h1 h2 => ?_⟩
  · unfold c_n at c5 ⊢
    rw [eo] at c5 mn
    rw [hv] at k
    rcases k with ⟨k1, k2⟩ | ⟨k1, k2⟩
    · rw [if_pos k1] at hon
      omega
    · rw [if_neg k1] at hon
      omega
  · by_cases z : j = om'.toNatClampNeg
    · rw [z, hv]; exact hr
    · exact c6 j (by omega) h2
theorem JNM.sx {bi b ti tv : Int32} (h : JNM S S1 l) (f1 : S.1 0 42 = .int dp) (f2 : S1.1 0 43 = .int on) (f3 : S1.1 0 45 = .int om) (hbi : bi.toInt = dp.toInt - 1) (hbv : S.2.1 26 bi.toNatClampNeg = b) (hb : b.toInt < om.toInt) (h0 : 0 ≤ om'.toInt) (ht : S.2.1 27 ti.toNatClampNeg = tv) (hti : ti.toInt = om.toInt - 1) (hr : l.toInt ≤ dk_rk tv.toInt) (hv : S.2.1 27 om'.toNatClampNeg = v) (g2 : S2.1 0 43 = .int on') (g3 : S2.1 0 45 = .int om') (hom : om'.toInt = om.toInt - 1) (hon : (v.toInt = 43 ∧ on'.toInt = on.toInt - 1) ∨ (v.toInt ≠ 43 ∧ on'.toInt = on.toInt)) : JNM S S2 l := by
  have e1 := dk_clN om
  have e2 := dk_clN om'
  have e3 := dk_clN ti
  have e4 := dk_clN bi
  have e5 := dk_clN dp
  have et : ti.toNatClampNeg = om'.toNatClampNeg := by omega
  have ev : v = tv := by rw [← hv, ← ht, et]
  refine h.st f1 f2 f3 ?_ hv (by rw [ev]; exact hr) g2 g3 hom ?_
  · rw [show dp.toNatClampNeg - 1 = bi.toNatClampNeg by omega, hbv]
    omega
  · rcases hon with ⟨a, b⟩ | ⟨a, b⟩
    · rw [if_pos a]; exact b
    · rw [if_neg a]; omega
theorem TFM.join (h : TFM kn ph bg nt R o S) {op : Int} (P : PSM S op) (f1 : S.1 0 42 = .int dp) (f2 : S.1 0 43 = .int on) (f3 : S.1 0 45 = .int om) (J : JNM S S1 l) (top : TOPM S1 l) (m : dg_sm shM WF WA S S1) (h42 : (0, 42) ∉ WF) (k2 : 22 ∉ WA) (k3 : 23 ∉ WA) (k4 : 24 ∉ WA) (k6 : 26 ∉ WA) (k7 : 27 ∉ WA) : (4 ≤ l.toInt → TFM kn ph bg nt R o S1) ∧ (1 ≤ l.toInt → l.toInt ≤ 3 → TFM kn ph bg 0 R (o - nt) S1) := by
  obtain ⟨d, hd, a1, a2, a3, a4, a5, a6, a7, a8⟩ := h.inv f1 f2 f3
  obtain ⟨on', om', c1, c2, c3, c4, c5, c6⟩ := J dp on om f1 f2 f3
  obtain ⟨p1, p2, p3, p4, p5⟩ := P dp on om f1 f2 f3
  obtain ⟨b1, b2, b3, b4, b5⟩ := p1.top
  have g42 : S1.1 0 42 = .int dp := by rw [m.1 0 42 _ sM_0 h42]; exact f1
  have g26 := (m.2 26 _ sM_26 k6).1
  have g27 := (m.2 27 _ sM_27 k7).1
  have top := top dp om' g42 c2
  rw [hd, Nat.add_sub_cancel] at c3 top b4 b2
  rw [g26, g27] at top
  have mk : ∀ nt' o' : Nat, c_n (S.2.1 27) (S.2.1 26 d).toInt.toNat om'.toNatClampNeg = nt' → on'.toNatClampNeg = o' → TFM kn ph bg nt' R o' S1 := by
    intro nt' o' q1 q2
    refine TFM.mk g42 c1 c2 hd (by rw [(m.2 22 _ sM_22 k2).1]; exact a1.symm) (by rw [(m.2 23 _ sM_23 k3).1]; exact a2.symm) (by rw [(m.2 24 _ sM_24 k4).1]; exact a3.symm) (by rw [g26, g27]; exact q1) ?_ q2 (by rw [g26]; exact c3) (by rw [g26]; exact a8)
    rw [g26, g27, (m.2 22 _ sM_22 k2).1, (m.2 23 _ sM_23 k3).1, (m.2 24 _ sM_24 k4).1, a5]
  have e1 := dk_clN on
  have e2 := dk_clN on'
  have mn1 := dk_cnt_mono (f := S.2.1 27) (k := 43) c3
  have mn2 := dk_cnt_mono (f := S.2.1 27) (k := 43) c4
  refine ⟨fun hl => ?_, fun hl0 hl => ?_⟩
  · have hn : ∀ j, om'.toNatClampNeg ≤ j → j < om.toNatClampNeg → (S.2.1 27 j).toInt ≠ 43 := by
      intro j h1 h2 q
      have h3 := c6 j h1 h2
      have r := dk_rl (S.2.1 27 j).toInt
      omega
    refine mk nt o ?_ ?_
    · rw [c_n_pop c3 c4 hn]; exact a4.symm
    · rw [c_n_none c4 hn] at c5
      omega
  · have hz : c_n (S.2.1 27) (S.2.1 26 d).toInt.toNat om'.toNatClampNeg = 0 := by
      refine c_n_none c3 (fun j h1 h2 q => ?_)
      rcases top with z | z
      · omega
      · have h3 := (b4 j h1 (by omega)).2.2.1 (om'.toNatClampNeg - 1) (by omega) (by omega)
        have r := dk_rl (S.2.1 27 j).toInt
        omega
    refine mk 0 (o - nt) hz ?_
    unfold c_n at c5 hz a4
    omega
theorem TFM.pop (h : TFM kn ph bg nt R o S) {op : Int} (P : PSM S op) (f1 : S.1 0 42 = .int dp) (f2 : S.1 0 43 = .int on) (f3 : S.1 0 45 = .int om) (top : TOPM S l) (hl : l.toInt = 1) (e : S1 = dg_uF S 0 42 (.int dp')) (hdp : dp'.toInt = dp.toInt - 1) (hk : 2 ≤ kn) : ∃ (a b : Int) (c : Bool) (n : Nat) (R' : List m_F), R = (a, b, c, n) :: R' ∧ TFM a b c n R' o S1 := by
  obtain ⟨d, hd, a1, a2, a3, a4, a5, a6, a7, a8⟩ := h.inv f1 f2 f3
  obtain ⟨p1, p2, p3, p4, p5⟩ := P dp on om f1 f2 f3
  obtain ⟨b1, b2, b3, b4, b5⟩ := p1.top
  have top := top dp om f1 f3
  rw [hd, Nat.add_sub_cancel] at top b5
  have e1 := dk_clN dp
  have e2 := dk_clN dp'
  have eb : om.toNatClampNeg = (S.2.1 26 d).toInt.toNat := by
    rcases top with z | z
    · exact z
    · have r := dk_rl (S.2.1 27 (om.toNatClampNeg - 1)).toInt
      omega
  have hd0 : d ≠ 0 := fun z => by
    have h0 := b5.1 z
    omega
  obtain ⟨d1, rfl⟩ : ∃ d1, d = d1 + 1 := ⟨d - 1, by omega⟩
  have hd1 : dp'.toNatClampNeg = d1 + 1 := by omega
  have g1 : S1.1 0 42 = .int dp' := dg_uF_at e
  have g2 : S1.1 0 43 = .int on := by rw [dg_uF_ne e (fun z => absurd z.2 (by decide))]; exact f2
  have g3 : S1.1 0 45 = .int om := by rw [dg_uF_ne e (fun z => absurd z.2 (by decide))]; exact f3
  refine ⟨_, _, _, _, _, a5, TFM.mk g1 g2 g3 hd1 (by rw [dg_uF_f e]) (by rw [dg_uF_f e]) (by rw [dg_uF_f e]) (by rw [dg_uF_f e, dg_uF_f e, eb]) (by rw [dg_uF_f e, dg_uF_f e, dg_uF_f e, dg_uF_f e, dg_uF_f e]) a6 (by rw [dg_uF_f e, eb]; exact a8.1) (by rw [dg_uF_f e]; exact a8.2)⟩
end TF
end
section
/-! operand() and goesOn() as steps of the machine of frames -/
section OL
variable {kd vl : Nat → Int32} {w kn ph x : Int} {bg : Bool} {nt o k : Nat} {R : List m_F}
theorem m_opd_not (ht : m_tst kn = true) (hb : bg = true) (h : g_o kd vl 23 k = true) : m_opd kd vl w kn ph bg nt R o k = if o = 7 then m_bad else (0, (kn, ph, true, nt + 1) :: R, o + 1, k + 1, false) := by
  unfold m_opd m_fst m_opA
  rw [ht, hb, h]
  rfl
theorem m_opd_br (ht : m_tst kn = true) (hb : bg = true) (h : g_s kd vl 91 k = true) : m_opd kd vl w kn ph bg nt R o k = m_push kn ph nt R o (k + 1) 5 := by
  have h2 : g_o kd vl 23 k = false := by
    cases q : g_o kd vl 23 k with
    | false => rfl
    | true => have a := g_o_iff.mp q; have b := g_s_iff.mp h; omega
  unfold m_opd m_fst m_opA
  rw [ht, hb, h, h2]
  rfl
theorem m_opd_all (ht : m_tst kn = true) (hb : bg = true) (h : g_o kd vl 24 k = true) : m_opd kd vl w kn ph bg nt R o k = (0, (kn, 2, false, nt) :: R, o, k + 1, true) := by
  have a := g_o_iff.mp h
  have h2 : g_o kd vl 23 k = false := by
    cases q : g_o kd vl 23 k with
    | false => rfl
    | true => have b := g_o_iff.mp q; omega
  have h3 : g_s kd vl 91 k = false := by
    cases q : g_s kd vl 91 k with
    | false => rfl
    | true => have b := g_s_iff.mp q; omega
  unfold m_opd m_fst m_opA
  rw [ht, hb, h, h2, h3]
  rfl
theorem m_fst_no (h : (m_tst kn && bg) = false ∨ (g_o kd vl 23 k = false ∧ g_s kd vl 91 k = false ∧ g_o kd vl 24 k = false)) : m_fst kd vl kn bg k = false := by
  unfold m_fst
  rcases h with h | ⟨h1, h2, h3⟩
  · rw [h]; rfl
  · rw [h1, h2, h3]; cases (m_tst kn && bg) <;> rfl
theorem m_opd_b (h : m_fst kd vl kn bg k = false) : m_opd kd vl w kn ph bg nt R o k = m_opB kd vl w kn ph nt R o k := by
  unfold m_opd
  rw [h]
  rfl
theorem m_opd_par (hf : m_fst kd vl kn bg k = false) (h : g_s kd vl 40 k = true) : m_opd kd vl w kn ph bg nt R o k = m_push kn ph nt R o (k + 1) 2 := by
  rw [m_opd_b hf]
  unfold m_opB
  rw [if_pos h]
theorem g_so_o {c d : Int} (h : g_o kd vl c k = true) : g_s kd vl d k = false := by
  cases q : g_s kd vl d k with
  | false => rfl
  | true => have b := g_s_iff.mp q; have a := g_o_iff.mp h; omega
theorem g_oo {c d : Int} (h : g_o kd vl c k = true) (hd : c ≠ d) : g_o kd vl d k = false := by
  cases q : g_o kd vl d k with
  | false => rfl
  | true => have b := g_o_iff.mp q; have a := g_o_iff.mp h; omega
theorem g_on {c : Int} (h : g_o kd vl c k = true) : g_n kd k = false := by
  cases q : g_n kd k with
  | false => rfl
  | true => have b := g_n_iff.mp q; have a := g_o_iff.mp h; omega
theorem g_ns {d : Int} (h : g_n kd k = true) : g_s kd vl d k = false := by
  cases q : g_s kd vl d k with
  | false => rfl
  | true => have b := g_s_iff.mp q; have a := g_n_iff.mp h; omega
theorem g_no {d : Int} (h : g_n kd k = true) : g_o kd vl d k = false := by
  cases q : g_o kd vl d k with
  | false => rfl
  | true => have b := g_o_iff.mp q; have a := g_n_iff.mp h; omega
theorem m_opd_if (hf : m_fst kd vl kn bg k = false) (h : g_o kd vl 20 k = true) : m_opd kd vl w kn ph bg nt R o k = if g_s kd vl 40 (k + 1) then m_push kn ph nt R o (k + 2) 6 else m_bad := by
  rw [m_opd_b hf]
  unfold m_opB
  rw [g_so_o h, h]
  rfl
theorem m_opd_mm (hf : m_fst kd vl kn bg k = false) (h : g_o kd vl 25 k = true ∨ g_o kd vl 26 k = true) : m_opd kd vl w kn ph bg nt R o k = if g_s kd vl 40 (k + 1) then m_push kn ph nt R o (k + 2) 3 else m_bad := by
  rw [m_opd_b hf]
  unfold m_opB
  rcases h with h | h
  · rw [g_so_o h, g_oo (d := 20) h (by decide), h]; rfl
  · rw [g_so_o h, g_oo (d := 20) h (by decide), h, Bool.or_true]; rfl
theorem m_opd_at (hf : m_fst kd vl kn bg k = false) (h1 : g_s kd vl 40 k = false) (h2 : g_o kd vl 20 k = false) (h3 : g_o kd vl 25 k = false) (h4 : g_o kd vl 26 k = false) (h : g_n kd k = true ∨ g_fw kd vl w k = true) : m_opd kd vl w kn ph bg nt R o k = (0, (kn, ph, false, nt) :: R, o, k + 1, true) := by
  rw [m_opd_b hf]
  unfold m_opB
  rw [h1, h2, h3, h4]
  have e : (g_n kd k || g_fw kd vl w k) = true := by rcases h with h | h <;> rw [h] <;> simp
  rw [e]
  rfl
theorem m_opd_no (hf : m_fst kd vl kn bg k = false) (h1 : g_s kd vl 40 k = false) (h2 : g_o kd vl 20 k = false) (h3 : g_o kd vl 25 k = false) (h4 : g_o kd vl 26 k = false) (h : g_n kd k = false ∧ g_fw kd vl w k = false) : m_opd kd vl w kn ph bg nt R o k = m_bad := by
  rw [m_opd_b hf]
  unfold m_opB
  rw [h1, h2, h3, h4, h.1, h.2]
  rfl
theorem g_fw_5 (h : (kd k).toInt = 5) : g_fw kd vl w k = false := by
  cases q : g_fw kd vl w k with
  | false => rfl
  | true => have a := (g_fw_iff.mp q).1; omega
theorem g_n_5 (h : (kd k).toInt = 5) : g_n kd k = false := by
  cases q : g_n kd k with
  | false => rfl
  | true => have a := g_n_iff.mp q; omega
theorem m_opd_5 (h : (kd k).toInt = 5) : m_opd kd vl w kn ph bg nt R o k = m_bad := m_opd_no (m_fst_no (Or.inr ⟨g_o_5 h, g_s_5 h, g_o_5 h⟩)) (g_s_5 h) (g_o_5 h) (g_o_5 h) (g_o_5 h) ⟨g_n_5 h, g_fw_5 h⟩
theorem m_mm_bad {q : Int} (h : g_s kd vl 40 (k + 1) = false ∨ o = 7) : (if g_s kd vl 40 (k + 1) then m_push kn ph nt R o (k + 2) q else m_bad) = m_bad := by
  rcases h with h | h
  · rw [h]; rfl
  · unfold m_push
    rw [if_pos h]
    split <;> rfl
/-- which of a SUM's words it is -/
def SRT (kd vl : Nat → Int32) (k : Nat) (x : Int) : Prop := (x = 0 → g_n kd k = true) ∧ (x = 1 → g_o kd vl 5 k = true) ∧ (x = 2 → g_o kd vl 15 k = true) ∧ (x = 3 → g_o kd vl 16 k = true) ∧ (x = 4 → g_o kd vl 17 k = true) ∧ (x = 5 → g_o kd vl 18 k = true) ∧ (x = 6 → g_o kd vl 19 k = true) ∧ (x = -1 → g_n kd k = false ∧ g_o kd vl 5 k = false ∧ g_o kd vl 15 k = false ∧ g_o kd vl 16 k = false ∧ g_o kd vl 17 k = false ∧ g_o kd vl 18 k = false ∧ g_o kd vl 19 k = false)
theorem SRT.n (h : g_n kd k = true) (hx : x = 0) : SRT kd vl k x := ⟨fun _ => h, fun q => absurd q (by omega), fun q => absurd q (by omega), fun q => absurd q (by omega), fun q => absurd q (by omega), fun q => absurd q (by omega), fun q => absurd q (by omega), fun q => absurd q (by omega)⟩
theorem SRT.k1 (h : g_o kd vl 5 k = true) (hx : x = 1) : SRT kd vl k x := ⟨fun q => absurd q (by omega), fun _ => h, fun q => absurd q (by omega), fun q => absurd q (by omega), fun q => absurd q (by omega), fun q => absurd q (by omega), fun q => absurd q (by omega), fun q => absurd q (by omega)⟩
theorem SRT.k2 (h : g_o kd vl 15 k = true) (hx : x = 2) : SRT kd vl k x := ⟨fun q => absurd q (by omega), fun q => absurd q (by omega), fun _ => h, fun q => absurd q (by omega), fun q => absurd q (by omega), fun q => absurd q (by omega), fun q => absurd q (by omega), fun q => absurd q (by omega)⟩
theorem SRT.k3 (h : g_o kd vl 16 k = true) (hx : x = 3) : SRT kd vl k x := ⟨fun q => absurd q (by omega), fun q => absurd q (by omega), fun q => absurd q (by omega), fun _ => h, fun q => absurd q (by omega), fun q => absurd q (by omega), fun q => absurd q (by omega), fun q => absurd q (by omega)⟩
theorem SRT.k4 (h : g_o kd vl 17 k = true) (hx : x = 4) : SRT kd vl k x := ⟨fun q => absurd q (by omega), fun q => absurd q (by omega), fun q => absurd q (by omega), fun q => absurd q (by omega), fun _ => h, fun q => absurd q (by omega), fun q => absurd q (by omega), fun q => absurd q (by omega)⟩
theorem SRT.k5 (h : g_o kd vl 18 k = true) (hx : x = 5) : SRT kd vl k x := ⟨fun q => absurd q (by omega), fun q => absurd q (by omega), fun q => absurd q (by omega), fun q => absurd q (by omega), fun q => absurd q (by omega), fun _ => h, fun q => absurd q (by omega), fun q => absurd q (by omega)⟩
theorem SRT.k6 (h : g_o kd vl 19 k = true) (hx : x = 6) : SRT kd vl k x := ⟨fun q => absurd q (by omega), fun q => absurd q (by omega), fun q => absurd q (by omega), fun q => absurd q (by omega), fun q => absurd q (by omega), fun q => absurd q (by omega), fun _ => h, fun q => absurd q (by omega)⟩
theorem SRT.no (h0 : g_n kd k = false) (h1 : g_o kd vl 5 k = false) (h2 : g_o kd vl 15 k = false) (h3 : g_o kd vl 16 k = false) (h4 : g_o kd vl 17 k = false) (h5 : g_o kd vl 18 k = false) (h6 : g_o kd vl 19 k = false) (hx : x = -1) : SRT kd vl k x := ⟨fun q => absurd q (by omega), fun q => absurd q (by omega), fun q => absurd q (by omega), fun q => absurd q (by omega), fun q => absurd q (by omega), fun q => absurd q (by omega), fun q => absurd q (by omega), fun _ => ⟨h0, h1, h2, h3, h4, h5, h6⟩⟩
theorem SRT.good (h : SRT kd vl k x) (hx : (0 ≤ x ∧ x ≤ 3) ∨ (x = 4 ∧ w = 0) ∨ ((x = 5 ∨ x = 6) ∧ w ≠ 0)) : g_n kd k = true ∨ g_fw kd vl w k = true := by
  have hc : x = 0 ∨ x = 1 ∨ x = 2 ∨ x = 3 ∨ (x = 4 ∧ w = 0) ∨ (x = 5 ∧ w ≠ 0) ∨ (x = 6 ∧ w ≠ 0) := by omega
  obtain ⟨a0, a1, a2, a3, a4, a5, a6, -⟩ := h
  rcases hc with q | q | q | q | ⟨q, z⟩ | ⟨q, z⟩ | ⟨q, z⟩
  · exact Or.inl (a0 q)
  · exact Or.inr (by unfold g_fw; rw [a1 q]; simp)
  · exact Or.inr (by unfold g_fw; rw [a2 q]; simp)
  · exact Or.inr (by unfold g_fw; rw [a3 q]; simp)
  · exact Or.inr (by unfold g_fw; rw [a4 q]; simp [z])
  · exact Or.inr (by unfold g_fw; rw [a5 q]; simp [z])
  · exact Or.inr (by unfold g_fw; rw [a6 q]; simp [z])
theorem SRT.bad (h : SRT kd vl k x) (hx : x = -1 ∨ (x = 4 ∧ w ≠ 0) ∨ ((x = 5 ∨ x = 6) ∧ w = 0)) : g_n kd k = false ∧ g_fw kd vl w k = false := by
  have hc : x = -1 ∨ (x = 4 ∧ w ≠ 0) ∨ (x = 5 ∧ w = 0) ∨ (x = 6 ∧ w = 0) := by omega
  obtain ⟨a0, a1, a2, a3, a4, a5, a6, a7⟩ := h
  rcases hc with q | ⟨q, z⟩ | ⟨q, z⟩ | ⟨q, z⟩
  · obtain ⟨b0, b1, b2, b3, b4, b5, b6⟩ := a7 q
    exact ⟨b0, by unfold g_fw; rw [b1, b2, b3, b4, b5, b6]; simp⟩
  · have h := a4 q
    exact ⟨g_on h, by unfold g_fw; rw [g_oo (d := 5) h (by decide), g_oo (d := 15) h (by decide), g_oo (d := 16) h (by decide), g_oo (d := 18) h (by decide), g_oo (d := 19) h (by decide)]; simp [z]⟩
  · have h := a5 q
    exact ⟨g_on h, by unfold g_fw; rw [g_oo (d := 5) h (by decide), g_oo (d := 15) h (by decide), g_oo (d := 16) h (by decide), g_oo (d := 17) h (by decide)]; simp [z]⟩
  · have h := a6 q
    exact ⟨g_on h, by unfold g_fw; rw [g_oo (d := 5) h (by decide), g_oo (d := 15) h (by decide), g_oo (d := 16) h (by decide), g_oo (d := 17) h (by decide)]; simp [z]⟩
theorem m_tst_iff : m_tst kn = true ↔ (kn = 1 ∨ kn = 5 ∨ kn = 6) := by
  unfold m_tst
  simp only [Bool.or_eq_true, decide_eq_true_eq]
  omega
theorem m_tst_f (h : ¬ (kn = 1 ∨ kn = 5 ∨ kn = 6)) : m_tst kn = false := by
  cases q : m_tst kn with
  | false => rfl
  | true => exact absurd (m_tst_iff.mp q) h
/-! goesOn -/
theorem g_so_f (h1 : g_s kd vl 43 k = false) (h2 : g_s kd vl 45 k = false) : g_so kd vl k = false := by unfold g_so; rw [h1, h2]; rfl
theorem g_po_f (h1 : g_s kd vl 42 k = false) (h2 : g_s kd vl 47 k = false) (h3 : g_s kd vl 37 k = false) : g_po kd vl k = false := by unfold g_po; rw [h1, h2, h3]; rfl
theorem g_co_f (h1 : g_s kd vl 60 k = false) (h2 : g_s kd vl 62 k = false) (h3 : g_s kd vl 61 k = false) : g_co kd vl k = false := by unfold g_co; rw [h1, h2, h3]; rfl
theorem g_co_w {c : Int} (h : g_o kd vl c k = true) : g_co kd vl k = false := g_co_f (g_so_o h) (g_so_o h) (g_so_o h)
theorem g_sp5 (h : (kd k).toInt = 5) : g_so kd vl k = false ∧ g_po kd vl k = false ∧ g_co kd vl k = false := ⟨g_so_f (g_s_5 h) (g_s_5 h), g_po_f (g_s_5 h) (g_s_5 h) (g_s_5 h), g_co_f (g_s_5 h) (g_s_5 h) (g_s_5 h)⟩
theorem g_so_1 (h : g_s kd vl 43 k = true) : g_so kd vl k = true ∨ g_po kd vl k = true := Or.inl (by unfold g_so; rw [h]; rfl)
theorem g_so_2 (h : g_s kd vl 45 k = true) : g_so kd vl k = true ∨ g_po kd vl k = true := Or.inl (by unfold g_so; rw [h, Bool.or_true])
theorem g_po_1 (h : g_s kd vl 42 k = true) : g_so kd vl k = true ∨ g_po kd vl k = true := Or.inr (by unfold g_po; rw [h]; rfl)
theorem g_po_2 (h : g_s kd vl 47 k = true) : g_so kd vl k = true ∨ g_po kd vl k = true := Or.inr (by unfold g_po; rw [h, Bool.or_true]; rfl)
theorem g_po_3 (h : g_s kd vl 37 k = true) : g_so kd vl k = true ∨ g_po kd vl k = true := Or.inr (by unfold g_po; rw [h, Bool.or_true])
theorem g_co_1 (h : g_s kd vl 60 k = true) : g_co kd vl k = true := by unfold g_co; rw [h]; rfl
theorem g_co_2 (h : g_s kd vl 62 k = true) : g_co kd vl k = true := by unfold g_co; rw [h, Bool.or_true]; rfl
theorem g_co_3 (h : g_s kd vl 61 k = true) : g_co kd vl k = true := by unfold g_co; rw [h, Bool.or_true]
theorem m_go_cmp (ht : m_tst kn = true) (h0 : ph = 0) (h : g_so kd vl k = false ∧ g_po kd vl k = false) (hc : g_co kd vl k = true) : m_go kd vl kn ph bg nt R o k = (0, (kn, 1, bg, nt) :: R, o, k + 1, false) := by
  rw [h0, m_go_co ht h, if_pos hc]
/-- where nothing goes on: no operator, no comparing sign where one must stand, no end of its own -/
theorem m_go_bad (h : ph < 2 → g_so kd vl k = false ∧ g_po kd vl k = false) (h2 : (m_tst kn = true ∧ ph = 0 ∧ g_co kd vl k = false) ∨ (2 ≤ kn ∧ (m_tst kn = true → ph = 0 → g_co kd vl k = false) ∧ (m_tst kn = true → g_o kd vl 22 k = false ∧ g_o kd vl 21 k = false) ∧ ((kn = 3 ∨ kn = 6) → g_s kd vl 44 k = false) ∧ (kn = 5 → g_s kd vl 93 k = false) ∧ (kn ≠ 3 → kn ≠ 6 → kn ≠ 5 → g_s kd vl 41 k = false))) : m_go kd vl kn ph bg nt R o k = m_bad := by
  unfold m_go
  rw [m_noop h]
  rcases h2 with ⟨a, b, c⟩ | ⟨a, b, c, d, e, f⟩
  · rw [a, b, c]; rfl
  · by_cases t : m_tst kn = true
    · by_cases z : ph = 0
      · rw [t, z, b t z]; rfl
      · rw [t, (c t).1, (c t).2]
        rw [if_neg (by decide), if_neg (by simp [z]), if_neg (by decide), if_neg (by omega)]
        by_cases q : kn = 3 ∨ kn = 6
        · rw [if_pos q, d q]; rfl
        · rw [if_neg q]
          by_cases q5 : kn = 5
          · rw [if_pos q5, e q5]; rfl
          · rw [if_neg q5, f (by omega) (by omega) q5]; rfl
    · have t : m_tst kn = false := by cases q : m_tst kn with
        | false => rfl
        | true => exact absurd q t
      rw [t]
      rw [if_neg (by decide), if_neg (by simp), if_neg (by simp), if_neg (by omega)]
      by_cases q : kn = 3 ∨ kn = 6
      · rw [if_pos q, d q]; rfl
      · rw [if_neg q]
        by_cases q5 : kn = 5
        · rw [if_pos q5, e q5]; rfl
        · rw [if_neg q5, f (by omega) (by omega) q5]; rfl
/-- a rule's own frame ends -/
theorem m_go_end (h : ph < 2 → g_so kd vl k = false ∧ g_po kd vl k = false) (hk : kn = 0 ∨ (kn = 1 ∧ ph ≠ 0 ∧ g_o kd vl 22 k = false ∧ g_o kd vl 21 k = false)) : m_go kd vl kn ph bg nt R o k = (1, (kn, ph, bg, 0) :: R, o - nt, k, true) := by
  rcases hk with rfl | ⟨rfl, h0, h1, h2⟩
  · exact m_go_0 h
  · exact m_go_1 h h0 h1 h2
theorem m_go_com (h : ph < 2 → g_so kd vl k = false ∧ g_po kd vl k = false) (hk : kn = 3 ∨ (kn = 6 ∧ ph ≠ 0 ∧ g_o kd vl 22 k = false ∧ g_o kd vl 21 k = false)) (hs : g_s kd vl 44 k = true) : m_go kd vl kn ph bg nt R o k = (0, ((if kn = 3 then 4 else 3), 0, bg, 0) :: R, o - nt, k + 1, false) := by
  rcases hk with rfl | ⟨rfl, h0, h1, h2⟩
  · rw [m_go_3 h, if_pos hs]; rfl
  · rw [m_go_6 h h0 h1 h2, if_pos hs]; rfl
theorem m_go_cls (h : ph < 2 → g_so kd vl k = false ∧ g_po kd vl k = false) (hk : ((kn = 2 ∨ kn = 4) ∧ g_s kd vl 41 k = true) ∨ (kn = 5 ∧ ph ≠ 0 ∧ g_o kd vl 22 k = false ∧ g_o kd vl 21 k = false ∧ g_s kd vl 93 k = true)) : m_go kd vl kn ph bg nt R o k = m_pop kn nt R o k := by
  rcases hk with ⟨rfl | rfl, hs⟩ | ⟨rfl, h0, h1, h2, hs⟩
  · rw [m_go_2 h, if_pos hs]
  · rw [m_go_4 h, if_pos hs]
  · rw [m_go_5 h h0 h1 h2, if_pos hs]
end OL
section OK
variable {tb : Nat → Int32} {n : Nat} {w : Int} {S S1 S' : dg_S} {WF : List (Nat × Nat)} {WA : List Nat} {sa fk y8 y4 r dp on om t : Int32} {kn ph kn' ph' : Int} {bg bg' q : Bool} {nt nt' o o' k' kk : Nat} {R R' : List m_F} {s0 : m_S}
/-- what an operand's reading comes to -/
def OPK (tb : Nat → Int32) (n : Nat) (w : Int) (S S' : dg_S) (r : Int32) : Prop := ∀ sa fk f a : Int32, S.1 0 4 = .int sa → S.1 0 8 = .int fk → fk.toInt = 0 → S'.1 0 8 = .int f → S'.1 0 4 = .int a → (f.toInt = 0 → m_st (T_kd tb n) (T_vl tb n) w (MSv S (t_ix tb n sa.toNatClampNeg) false) = MSv S' (t_ix tb n a.toNatClampNeg) (decide (r.toInt = 1))) ∧ (f.toInt ≠ 0 → m_st (T_kd tb n) (T_vl tb n) w (MSv S (t_ix tb n sa.toNatClampNeg) false) = m_bad)
theorem MSv.keep {k : Nat} (m : dg_sm shM WF WA S S1) (h1 : (0, 42) ∉ WF) (h2 : (0, 43) ∉ WF) (h3 : (0, 45) ∉ WF) (k2 : 22 ∉ WA) (k3 : 23 ∉ WA) (k4 : 24 ∉ WA) (k6 : 26 ∉ WA) (k7 : 27 ∉ WA) : MSv S k q = MSv S1 k q := by
  unfold MSv MSL
  rw [fI_sm m h1, fI_sm m h2, fI_sm m h3, (m.2 22 _ sM_22 k2).1, (m.2 23 _ sM_23 k3).1, (m.2 24 _ sM_24 k4).1, (m.2 26 _ sM_26 k6).1, (m.2 27 _ sM_27 k7).1]
theorem OPK.no (f4 : S.1 0 4 = .int sa) (f8 : S.1 0 8 = .int fk) (p8 : S'.1 0 8 = .int y8) (h8 : y8.toInt ≠ 0) (e : fk.toInt = 0 → m_st (T_kd tb n) (T_vl tb n) w (MSv S (t_ix tb n sa.toNatClampNeg) false) = m_bad) : OPK tb n w S S' r := by
  intro sa' fk' f a q1 q2 q3 q4 q5
  cases f4.symm.trans q1
  cases f8.symm.trans q2
  cases p8.symm.trans q4
  exact ⟨fun z => absurd z h8, fun _ => e q3⟩
theorem OPK.ok (f4 : S.1 0 4 = .int sa) (p8 : S'.1 0 8 = .int y8) (p4 : S'.1 0 4 = .int y4) (h8 : y8.toInt = 0) (hM : MSv S (t_ix tb n sa.toNatClampNeg) false = s0) (T : TFM kn ph bg nt R o S') (e : m_st (T_kd tb n) (T_vl tb n) w s0 = (0, (kn, ph, bg, nt) :: R, o, k', q)) (hk : t_ix tb n y4.toNatClampNeg = k') (hr : decide (r.toInt = 1) = q) : OPK tb n w S S' r := by
  intro sa' fk' f a q1 q2 q3 q4 q5
  cases f4.symm.trans q1
  cases p8.symm.trans q4
  cases p4.symm.trans q5
  exact ⟨fun _ => by rw [hM, e, T.ms, hk, hr], fun z => absurd h8 z⟩
theorem MS5 {op : Int} {k : Nat} (P : PSM S op) (f1 : S.1 0 42 = .int dp) (f2 : S.1 0 43 = .int on) (f3 : S.1 0 45 = .int om) (h : (T_kd tb n k).toInt = 5) : m_st (T_kd tb n) (T_vl tb n) w (MSv S k false) = m_bad := by
  have dd := PSM.dims P f1 f2 f3
  have e1 := dk_clN dp
  obtain ⟨nt, R, T⟩ := TFM.start (fx := Int32.ofInt (dp.toInt - 1)) P f1 f2 f3 (by rw [Int32.toInt_ofInt_of_le (by omega) (by omega)]) rfl rfl
  rw [T.ms, m_st_f]
  exact m_opd_5 h
/-- behind frames() -/
theorem OPK.fr (f4 : S.1 0 4 = .int sa) (p8 : S'.1 0 8 = .int y8) (p4 : S'.1 0 4 = .int y4) (hM : MSv S (t_ix tb n sa.toNatClampNeg) false = s0) (T : TFM kn ph false nt R o S1) (f1 : S1.1 0 42 = .int dp) (f2 : S1.1 0 43 = .int on) (f3 : S1.1 0 45 = .int om) (hd0 : 0 ≤ dp.toInt) (ho0 : 0 ≤ on.toInt) (m : dg_sm shM WF WA S1 S') (h45 : (0, 45) ∉ WF) (k7 : 27 ∉ WA) (hF : ∀ k9 : Int32, S'.1 0 8 = .int k9 → k9.toInt = 0 → FRM S1 S' t) (e : m_st (T_kd tb n) (T_vl tb n) w s0 = m_push kn ph nt R o kk t.toInt) (hk : y8.toInt = 0 → t_ix tb n y4.toNatClampNeg = kk) (h7 : y8.toInt ≠ 0 → o = 7) (hr : r.toInt = 0) : OPK tb n w S S' r := by
  intro sa' fk' f a q1 q2 q3 q4 q5
  cases f4.symm.trans q1
  cases p8.symm.trans q4
  cases p4.symm.trans q5
  refine ⟨fun z => ?_, fun z => ?_⟩
  · have F := hF _ p8 z
    have T2 := T.frm f1 f2 f3 hd0 ho0 m h45 k7 F
    have h6 := (F.2 on f2).1
    have e1 := dk_clN on
    have ho := T.2.1
    rw [fI_at f2] at ho
    rw [hM, e, T2.ms, hk z, show decide (r.toInt = 1) = false from by rw [hr]; rfl]
    unfold m_push
    rw [if_neg (by omega)]
  · rw [hM, e]
    unfold m_push
    rw [if_pos (h7 z)]
/-- what goesOn() comes to -/
def GOK (tb : Nat → Int32) (n : Nat) (w : Int) (S S' : dg_S) (r : Int32) : Prop := ∀ sa fk f a x : Int32, S.1 0 4 = .int sa → S.1 0 8 = .int fk → fk.toInt = 0 → S'.1 0 8 = .int f → S'.1 0 4 = .int a → S'.1 0 46 = .int x → (f.toInt = 0 → r.toInt = 1 → m_st (T_kd tb n) (T_vl tb n) w (MSv S (t_ix tb n sa.toNatClampNeg) true) = MSv S' (t_ix tb n a.toNatClampNeg) (decide (x.toInt = 1))) ∧ (f.toInt = 0 → r.toInt ≠ 1 → ∃ (L : List m_F) (o : Nat), m_st (T_kd tb n) (T_vl tb n) w (MSv S (t_ix tb n sa.toNatClampNeg) true) = (1, L, o, t_ix tb n a.toNatClampNeg, true)) ∧ (f.toInt ≠ 0 → m_st (T_kd tb n) (T_vl tb n) w (MSv S (t_ix tb n sa.toNatClampNeg) true) = m_bad ∨ ∃ (L : List m_F) (o k : Nat), m_st (T_kd tb n) (T_vl tb n) w (MSv S (t_ix tb n sa.toNatClampNeg) true) = (1, L, o, k, true) ∧ (T_kd tb n k).toInt = 5)
theorem GOK.no (f4 : S.1 0 4 = .int sa) (f8 : S.1 0 8 = .int fk) (p8 : S'.1 0 8 = .int y8) (h8 : y8.toInt ≠ 0) (e : fk.toInt = 0 → m_st (T_kd tb n) (T_vl tb n) w (MSv S (t_ix tb n sa.toNatClampNeg) true) = m_bad ∨ ∃ (L : List m_F) (o k : Nat), m_st (T_kd tb n) (T_vl tb n) w (MSv S (t_ix tb n sa.toNatClampNeg) true) = (1, L, o, k, true) ∧ (T_kd tb n k).toInt = 5) : GOK tb n w S S' r := by
  intro sa' fk' f a x q1 q2 q3 q4 q5 q6
  cases f4.symm.trans q1
  cases f8.symm.trans q2
  cases p8.symm.trans q4
  exact ⟨fun z => absurd z h8, fun z => absurd z h8, fun _ => e q3⟩
theorem GOK.ok {x : Int32} (f4 : S.1 0 4 = .int sa) (p8 : S'.1 0 8 = .int y8) (p4 : S'.1 0 4 = .int y4) (p46 : S'.1 0 46 = .int x) (h8 : y8.toInt = 0) (hM : MSv S (t_ix tb n sa.toNatClampNeg) true = s0) (T : TFM kn ph bg nt R o S') (e : m_st (T_kd tb n) (T_vl tb n) w s0 = (0, (kn, ph, bg, nt) :: R, o, k', q)) (hk : t_ix tb n y4.toNatClampNeg = k') (hr : r.toInt = 1) (hx : decide (x.toInt = 1) = q) : GOK tb n w S S' r := by
  intro sa' fk' f a x' q1 q2 q3 q4 q5 q6
  cases f4.symm.trans q1
  cases p8.symm.trans q4
  cases p4.symm.trans q5
  cases p46.symm.trans q6
  exact ⟨fun _ _ => by rw [hM, e, T.ms, hk, hx], fun _ z => absurd hr z, fun z => absurd h8 z⟩
theorem GOK.fin (f4 : S.1 0 4 = .int sa) (p8 : S'.1 0 8 = .int y8) (p4 : S'.1 0 4 = .int y4) (h8 : y8.toInt = 0) (hM : MSv S (t_ix tb n sa.toNatClampNeg) true = s0) (e : m_st (T_kd tb n) (T_vl tb n) w s0 = (1, R, o, k', true)) (hk : t_ix tb n y4.toNatClampNeg = k') (hr : r.toInt ≠ 1) : GOK tb n w S S' r := by
  intro sa' fk' f a x' q1 q2 q3 q4 q5 q6
  cases f4.symm.trans q1
  cases p8.symm.trans q4
  cases p4.symm.trans q5
  exact ⟨fun _ z => absurd z hr, fun _ _ => ⟨R, o, by rw [hM, e, hk]⟩, fun z => absurd h8 z⟩
theorem GO5 {op : Int} {k : Nat} (P : PSM S op) (f1 : S.1 0 42 = .int dp) (f2 : S.1 0 43 = .int on) (f3 : S.1 0 45 = .int om) (h : (T_kd tb n k).toInt = 5) : m_st (T_kd tb n) (T_vl tb n) w (MSv S k true) = m_bad ∨ ∃ (L : List m_F) (o k' : Nat), m_st (T_kd tb n) (T_vl tb n) w (MSv S k true) = (1, L, o, k', true) ∧ (T_kd tb n k').toInt = 5 := by
  have dd := PSM.dims P f1 f2 f3
  have e1 := dk_clN dp
  obtain ⟨p1, -⟩ := P dp on om f1 f2 f3
  obtain ⟨b1, b2, b3, b4, b5⟩ := p1.top
  obtain ⟨nt, R, T⟩ := TFM.start (fx := Int32.ofInt (dp.toInt - 1)) P f1 f2 f3 (by rw [Int32.toInt_ofInt_of_le (by omega) (by omega)]) rfl rfl
  have ek : (Int32.ofInt (dp.toInt - 1)).toNatClampNeg = dp.toNatClampNeg - 1 := by rw [dk_clN, Int32.toInt_ofInt_of_le (by omega) (by omega)]; omega
  rw [ek] at T
  obtain ⟨c1, c2, c3, c4, c5⟩ := b5
  rw [T.ms, m_st_t]
  have z := g_sp5 (vl := T_vl tb n) h
  by_cases hb : m_tst (S.2.1 22 (dp.toNatClampNeg - 1)).toInt = true ∧ (S.2.1 23 (dp.toNatClampNeg - 1)).toInt = 0
  · exact Or.inl (m_go_bad (fun _ => ⟨z.1, z.2.1⟩) (Or.inl ⟨hb.1, hb.2, z.2.2⟩))
  · by_cases h2 : 2 ≤ (S.2.1 22 (dp.toNatClampNeg - 1)).toInt
    · exact Or.inl (m_go_bad (fun _ => ⟨z.1, z.2.1⟩) (Or.inr ⟨h2, fun _ _ => z.2.2, fun _ => ⟨g_o_5 h, g_o_5 h⟩, fun _ => g_s_5 h, fun _ => g_s_5 h, fun _ _ _ => g_s_5 h⟩))
    · refine Or.inr ⟨_, _, k, m_go_end (fun _ => ⟨z.1, z.2.1⟩) ?_, h⟩
      by_cases q0 : (S.2.1 22 (dp.toNatClampNeg - 1)).toInt = 0
      · exact Or.inl q0
      · have q1 : (S.2.1 22 (dp.toNatClampNeg - 1)).toInt = 1 := by omega
        exact Or.inr ⟨q1, fun q2 => hb ⟨by rw [q1]; decide, q2⟩, g_o_5 h, g_o_5 h⟩
/-! a rule is read, step by step -/
def m_s0 (w : Int) (k : Nat) : m_S := (0, [(if w = 1 then 1 else 0, 0, true, 0)], 0, k, false)
/-- while more: the machine is where the state is; behind: what is taken -/
def RDG (tb : Nat → Int32) (n : Nat) (w : Int) (k0 : Nat) (S : dg_S) (mo f a x : Int32) : Prop := (mo.toInt = 1 → m_R (T_kd tb n) (T_vl tb n) w (m_s0 w k0) (MSv S (t_ix tb n a.toNatClampNeg) (decide (x.toInt = 1)))) ∧ (mo.toInt = 0 → f.toInt = 0 → ∃ (L : List m_F) (o : Nat), m_R (T_kd tb n) (T_vl tb n) w (m_s0 w k0) (1, L, o, t_ix tb n a.toNatClampNeg, true)) ∧ (mo.toInt = 0 → f.toInt ≠ 0 → m_R (T_kd tb n) (T_vl tb n) w (m_s0 w k0) m_bad ∨ ∃ (L : List m_F) (o k : Nat), m_R (T_kd tb n) (T_vl tb n) w (m_s0 w k0) (1, L, o, k, true) ∧ (T_kd tb n k).toInt = 5)
theorem y_ruleT {kd vl : Nat → Int32} {N k : Nat} (hN : ∀ k, N ≤ k → (kd k).toInt = 0) (hN2 : N ≤ 1600) : m_T kd vl w (y_rule kd vl w k) (m_s0 w k) (fun k' t => ∃ L : List m_F, t = (1, L, 0, k', true)) := by
  unfold y_rule m_s0
  by_cases h : w = 1
  · rw [if_pos h, if_pos h]
    exact (m_rule1 hN hN2 k).imp (fun k' t _ p => by obtain ⟨ph, rfl⟩ := p; exact ⟨_, rfl⟩)
  · rw [if_neg h, if_neg h]
    exact (m_rule0 hN hN2 k).imp (fun k' t _ p => ⟨_, p⟩)
theorem m_st_1 {kd vl : Nat → Int32} {L : List m_F} {o k : Nat} {b : Bool} : m_st kd vl w (1, L, o, k, b) = (1, L, o, k, b) := rfl
theorem m_st_2 {kd vl : Nat → Int32} : m_st kd vl w m_bad = m_bad := rfl
theorem y_rule_y {kd vl : Nat → Int32} {N k k' : Nat} {L : List m_F} {o : Nat} (hN : ∀ k, N ≤ k → (kd k).toInt = 0) (hN2 : N ≤ 1600) (h : m_R kd vl w (m_s0 w k) (1, L, o, k', true)) : y_rule kd vl w k = some k' := by
  have T := y_ruleT (vl := vl) (w := w) (k := k) hN hN2
  cases e : y_rule kd vl w k with
  | none =>
    have d := m_R.det h (T.1 e) rfl rfl
    have d2 := congrArg Prod.fst d
    exact absurd (show (1 : Nat) = 2 from d2) (by decide)
  | some j =>
    obtain ⟨t, r, L', rfl⟩ := T.2 j e
    have d := m_R.det h r rfl rfl
    have d2 : k' = j := congrArg (fun s : m_S => s.2.2.2.1) d
    rw [d2]
theorem y_rule_n {kd vl : Nat → Int32} {N k : Nat} (hN : ∀ k, N ≤ k → (kd k).toInt = 0) (hN2 : N ≤ 1600) (h : m_R kd vl w (m_s0 w k) m_bad) : y_rule kd vl w k = none := by
  have T := y_ruleT (vl := vl) (w := w) (k := k) hN hN2
  cases e : y_rule kd vl w k with
  | none => rfl
  | some j =>
    obtain ⟨t, r, L', rfl⟩ := T.2 j e
    have d := m_R.det h r rfl rfl
    have d2 := congrArg Prod.fst d
    exact absurd (show (2 : Nat) = 1 from d2) (by decide)
theorem RDG.rok {f a x mo : Int32} {k0 : Nat} (hn : n ≤ 1600) (h : fk.toInt = 0 → RDG tb n w k0 S' mo f a x) (hm : mo.toInt = 0) (p8 : S'.1 0 8 = .int f) (p4 : S'.1 0 4 = .int a) : ROK tb n fk (y_rule (T_kd tb n) (T_vl tb n) w k0) S' := by
  intro h0 f' a' q8 q4
  cases p8.symm.trans q8
  cases p4.symm.trans q4
  obtain ⟨-, h2, h3⟩ := h h0
  have hN : ∀ k, n ≤ k → (T_kd tb n k).toInt = 0 := fun k hk => T_kd_end hk
  refine ⟨fun z => ?_, fun z => ?_⟩
  · obtain ⟨L, o, r⟩ := h2 hm z
    exact y_rule_y hN hn r
  · rcases h3 hm z with r | ⟨L, o, k, r, e⟩
    · exact Or.inl (y_rule_n hN hn r)
    · exact Or.inr ⟨k, y_rule_y hN hn r, e⟩
theorem RDG.start {f a x mo : Int32} {k0 : Nat} (hm : mo.toInt = 1) (hx : x.toInt = 0) (T : TFM kn 0 true 0 [] 0 S) (hk : kn = if w = 1 then 1 else 0) (ha : t_ix tb n a.toNatClampNeg = k0) : RDG tb n w k0 S mo f a x := by
  refine ⟨fun _ => ?_, fun z => absurd z (by omega), fun z => absurd z (by omega)⟩
  rw [T.ms, ha, show decide (x.toInt = 1) = false from by rw [hx]; rfl, hk]
  exact m_R.rf
theorem RDG.opd {f a x mo f1 a1 x1 mo1 r : Int32} {k0 : Nat} (h : RDG tb n w k0 S mo f a x) (hm : mo.toInt = 1) (hx : x.toInt = 0) (f4 : S.1 0 4 = .int a) (f8 : S.1 0 8 = .int f) (hf : f.toInt = 0) (O : OPK tb n w S S1 r) (p8 : S1.1 0 8 = .int f1) (p4 : S1.1 0 4 = .int a1) (hS : ∀ k q, MSv S' k q = MSv S1 k q) (hx1 : x1.toInt = r.toInt) (hm1 : f1.toInt = 0 → mo1.toInt = 1) (hm2 : f1.toInt ≠ 0 → mo1.toInt = 0) : RDG tb n w k0 S' mo1 f1 a1 x1 := by
  obtain ⟨o1, o2⟩ := O a f f1 a1 f4 f8 hf p8 p4
  have h1 := h.1 hm
  rw [show decide (x.toInt = 1) = false from by rw [hx]; rfl] at h1
  refine ⟨fun z => ?_, fun z z2 => absurd (hm1 z2) (by omega), fun z z2 => Or.inl (h1.tr (m_R.st (o2 z2)))⟩
  have z0 : f1.toInt = 0 := by
    by_cases q9 : f1.toInt = 0
    · exact q9
    · have := hm2 q9; omega
  rw [hS, hx1]
  exact h1.tr (m_R.st (o1 z0))
theorem RDG.go {f a x mo f1 a1 x1 mo1 r : Int32} {k0 : Nat} (h : RDG tb n w k0 S mo f a x) (hm : mo.toInt = 1) (hx : x.toInt = 1) (f4 : S.1 0 4 = .int a) (f8 : S.1 0 8 = .int f) (hf : f.toInt = 0) (O : GOK tb n w S S' r) (p8 : S'.1 0 8 = .int f1) (p4 : S'.1 0 4 = .int a1) (p46 : S'.1 0 46 = .int x1) (hm1 : mo1.toInt = 1 ↔ (r.toInt = 1 ∧ f1.toInt = 0)) : RDG tb n w k0 S' mo1 f1 a1 x1 := by
  obtain ⟨o1, o2, o3⟩ := O a f f1 a1 x1 f4 f8 hf p8 p4 p46
  have h1 := h.1 hm
  rw [show decide (x.toInt = 1) = true from by rw [hx]; rfl] at h1
  refine ⟨fun z => h1.tr (m_R.st (o1 (hm1.mp z).2 (hm1.mp z).1)), fun z z2 => ?_, fun z z2 => ?_⟩
  · obtain ⟨L, o, e⟩ := o2 z2 (fun q9 => by have := hm1.mpr ⟨q9, z2⟩; omega)
    exact ⟨L, o, h1.tr (m_R.st e)⟩
  · rcases o3 z2 with e | ⟨L, o, k, e, e5⟩
    · exact Or.inl (h1.tr (m_R.st e))
    · exact Or.inr ⟨L, o, k, h1.tr (m_R.st e), e5⟩
end OK
end
section
/-! what a rule's reading writes, by the descent: the class's steps -/
abbrev d_C : Type := Nat → List Int
def d_so (kd vl : Nat → Int32) (k : Nat) : Int := if g_s kd vl 43 k then -10 else -11
def d_po (kd vl : Nat → Int32) (k : Nat) : Int := if g_s kd vl 42 k then -12 else if g_s kd vl 47 k then -13 else -14
def d_co (kd vl : Nat → Int32) (k : Nat) : Int := if g_s kd vl 60 k then -17 else if g_s kd vl 62 k then -18 else -19
def d_fw (kd vl : Nat → Int32) (k : Nat) : Int := if g_o kd vl 5 k then -1 else if g_o kd vl 15 k then -2 else if g_o kd vl 16 k then -3 else if g_o kd vl 17 k then -4 else if g_o kd vl 18 k then -5 else -6
def d_loop (op : Nat → Bool) (p : Nat → Option Nat) (cp : d_C) (st : Nat → Int) : Nat → Nat → List Int
  | 0, _ => []
  | f + 1, k => if op k then cp (k + 1) ++ st k :: d_loop op p cp st f ((p (k + 1)).getD 0) else []
def d_pair (s : Nat → Option Nat) (cs : d_C) (k : Nat) : List Int := cs k ++ cs ((s k).getD 0 + 1)
def d_choice (s t : Nat → Option Nat) (cs ct : d_C) (k : Nat) : List Int := ct (k + 2) ++ d_pair s cs ((t (k + 2)).getD 0 + 1) ++ [-9]
def d_prs (kd vl : Nat → Int32) (s : Nat → Option Nat) (cs : d_C) (k : Nat) : List Int := d_pair s cs (k + 2) ++ [if g_o kd vl 25 k then -15 else -16]
def d_part (kd vl : Nat → Int32) (s t : Nat → Option Nat) (cs ct : d_C) (k : Nat) : List Int :=
  if g_s kd vl 40 k then cs (k + 1)
  else if g_o kd vl 20 k then d_choice s t cs ct k
  else if g_o kd vl 25 k || g_o kd vl 26 k then d_prs kd vl s cs k
  else if g_n kd k then [(vl k).toInt] else [d_fw kd vl k]
def d_prod (kd vl : Nat → Int32) (p : Nat → Option Nat) (cp : d_C) (k : Nat) : List Int := cp k ++ d_loop (g_po kd vl) p cp (d_po kd vl) 1600 ((p k).getD 0)
def d_sum (kd vl : Nat → Int32) (p : Nat → Option Nat) (cp : d_C) (k : Nat) : List Int := d_prod kd vl p cp k ++ d_loop (g_so kd vl) (x_prod kd vl p) (d_prod kd vl p cp) (d_so kd vl) 1600 ((x_prod kd vl p k).getD 0)
def d_comp (kd vl : Nat → Int32) (s : Nat → Option Nat) (cs : d_C) (k : Nat) : List Int := cs k ++ cs ((s k).getD 0 + 1) ++ [d_co kd vl ((s k).getD 0)]
def d_fact (kd vl : Nat → Int32) (s : Nat → Option Nat) (cf1 ct1 cs : d_C) (k : Nat) : List Int :=
  if g_o kd vl 23 k then cf1 (k + 1) ++ [-8]
  else if g_s kd vl 91 k then ct1 (k + 1)
  else if g_o kd vl 24 k then [-7]
  else d_comp kd vl s cs k
def d_both (kd vl : Nat → Int32) (f : Nat → Option Nat) (cf : d_C) (k : Nat) : List Int := cf k ++ d_loop (g_o kd vl 22) f cf (fun _ => -20) 1600 ((f k).getD 0)
def d_test (kd vl : Nat → Int32) (f : Nat → Option Nat) (cf : d_C) (k : Nat) : List Int := d_both kd vl f cf k ++ d_loop (g_o kd vl 21) (x_both kd vl f) (d_both kd vl f cf) (fun _ => -21) 1600 ((x_both kd vl f k).getD 0)
/-- of a SUM, a TEST, a FACT where e brackets may still be opened, less one -/
def d_lv (kd vl : Nat → Int32) (w : Int) : Nat → d_C × d_C × d_C
  | 0 => (fun _ => [], fun _ => [], fun _ => [])
  | e + 1 => (d_sum kd vl (x_part kd vl w (x_lv kd vl w e).1 (x_lv kd vl w e).2.1) (d_part kd vl (x_lv kd vl w e).1 (x_lv kd vl w e).2.1 (d_lv kd vl w e).1 (d_lv kd vl w e).2.1), d_test kd vl (x_lv kd vl w (e + 1)).2.2 (d_fact kd vl (x_lv kd vl w (e + 1)).1 (d_lv kd vl w e).2.2 (d_lv kd vl w e).2.1 (d_sum kd vl (x_part kd vl w (x_lv kd vl w e).1 (x_lv kd vl w e).2.1) (d_part kd vl (x_lv kd vl w e).1 (x_lv kd vl w e).2.1 (d_lv kd vl w e).1 (d_lv kd vl w e).2.1))), d_fact kd vl (x_lv kd vl w (e + 1)).1 (d_lv kd vl w e).2.2 (d_lv kd vl w e).2.1 (d_sum kd vl (x_part kd vl w (x_lv kd vl w e).1 (x_lv kd vl w e).2.1) (d_part kd vl (x_lv kd vl w e).1 (x_lv kd vl w e).2.1 (d_lv kd vl w e).1 (d_lv kd vl w e).2.1)))
def d_rule (kd vl : Nat → Int32) (w : Int) (k : Nat) : List Int := if w = 1 then (d_lv kd vl w 8).2.1 k else (d_lv kd vl w 8).1 k
/-! the same by frames: kind, phase, whether it begins, the operators that wait (the last one first), its pair -/
abbrev n_F : Type := Int × Int × Bool × List Int × Int
/-- tag (0 on, 1 taken, 2 a fault), frames, how many brackets, token, whether an operand stands behind, what is written -/
abbrev n_S : Type := Nat × List n_F × Nat × Nat × Bool × List Int
def n_bad : n_S := (2, [], 0, 0, false, [])
/-- the class's step of the reference's code -/
def d_st (t : Int) : Int := if t ≤ 6 then -t else if t = 30 then -7 else if t = 43 then -8 else if t = 44 then -9 else 21 - t
def n_hi (l : Int) (ops : List Int) : List Int := ops.takeWhile (fun t => decide (l ≤ dk_rk t))
def n_lo (l : Int) (ops : List Int) : List Int := ops.dropWhile (fun t => decide (l ≤ dk_rk t))
def n_cn : List Int → Nat
  | [] => 0
  | t :: r => (if t = 43 then 1 else 0) + n_cn r
def n_sg (kd vl : Nat → Int32) (k : Nat) : Int := if g_s kd vl 43 k then 31 else if g_s kd vl 45 k then 32 else if g_s kd vl 42 k then 33 else if g_s kd vl 47 k then 34 else 35
def n_cp (kd vl : Nat → Int32) (k : Nat) : Int := if g_s kd vl 60 k then 38 else if g_s kd vl 62 k then 39 else 40
def n_push (kn ph : Int) (ops : List Int) (pr : Int) (R : List n_F) (o k : Nat) (q p : Int) (out : List Int) : n_S := if o = 7 then n_bad else (0, (q, 0, true, [], p) :: (kn, ph, false, ops, pr) :: R, o + 1, k, false, out)
def n_opA (kd vl : Nat → Int32) (kn ph : Int) (ops : List Int) (pr : Int) (R : List n_F) (o k : Nat) (out : List Int) : n_S :=
  if g_o kd vl 23 k then (if o = 7 then n_bad else (0, (kn, ph, true, 43 :: ops, pr) :: R, o + 1, k + 1, false, out))
  else if g_s kd vl 91 k then n_push kn ph ops pr R o (k + 1) 5 0 out
  else (0, (kn, 2, false, ops, pr) :: R, o, k + 1, true, out ++ [-7])
def n_opB (kd vl : Nat → Int32) (w : Int) (kn ph : Int) (ops : List Int) (pr : Int) (R : List n_F) (o k : Nat) (out : List Int) : n_S :=
  if g_s kd vl 40 k then n_push kn ph ops pr R o (k + 1) 2 0 out
  else if g_o kd vl 20 k then (if g_s kd vl 40 (k + 1) then n_push kn ph ops pr R o (k + 2) 6 44 out else n_bad)
  else if g_o kd vl 25 k || g_o kd vl 26 k then (if g_s kd vl 40 (k + 1) then n_push kn ph ops pr R o (k + 2) 3 (if g_o kd vl 25 k then 36 else 37) out else n_bad)
  else if g_n kd k then (0, (kn, ph, false, ops, pr) :: R, o, k + 1, true, out ++ [(vl k).toInt])
  else if g_fw kd vl w k then (0, (kn, ph, false, ops, pr) :: R, o, k + 1, true, out ++ [d_fw kd vl k]) else n_bad
def n_opd (kd vl : Nat → Int32) (w : Int) (kn ph : Int) (bg : Bool) (ops : List Int) (pr : Int) (R : List n_F) (o k : Nat) (out : List Int) : n_S := if m_fst kd vl kn bg k then n_opA kd vl kn ph ops pr R o k out else n_opB kd vl w kn ph ops pr R o k out
def n_pop (kn : Int) (ops : List Int) (pr : Int) (R : List n_F) (o k : Nat) (out : List Int) : n_S := match R with
  | [] => n_bad
  | (a, b, c, d, p) :: R' => (0, (a, if kn = 5 then 2 else b, c, d, p) :: R', o - n_cn ops - 1, k + 1, true, out ++ ops.map d_st ++ (if kn = 4 then [d_st pr] else []))
def n_go (kd vl : Nat → Int32) (kn ph : Int) (bg : Bool) (ops : List Int) (pr : Int) (R : List n_F) (o k : Nat) (out : List Int) : n_S :=
  if decide (ph < 2) && g_so kd vl k then (0, (kn, ph, bg, n_sg kd vl k :: n_lo 5 ops, pr) :: R, o, k + 1, false, out ++ (n_hi 5 ops).map d_st)
  else if decide (ph < 2) && g_po kd vl k then (0, (kn, ph, bg, n_sg kd vl k :: n_lo 6 ops, pr) :: R, o, k + 1, false, out ++ (n_hi 6 ops).map d_st)
  else if m_tst kn && decide (ph = 0) then (if g_co kd vl k then (0, (kn, 1, bg, n_cp kd vl k :: n_lo 5 ops, pr) :: R, o, k + 1, false, out ++ (n_hi 5 ops).map d_st) else n_bad)
  else if m_tst kn && g_o kd vl 22 k then (0, (kn, 0, true, 41 :: n_lo 2 ops, pr) :: R, o - n_cn (n_hi 2 ops), k + 1, false, out ++ (n_hi 2 ops).map d_st)
  else if m_tst kn && g_o kd vl 21 k then (0, (kn, 0, true, 42 :: n_lo 1 ops, pr) :: R, o - n_cn (n_hi 1 ops), k + 1, false, out ++ (n_hi 1 ops).map d_st)
  else if kn < 2 then (1, (kn, ph, bg, [], pr) :: R, o - n_cn ops, k, true, out ++ ops.map d_st)
  else if kn = 3 ∨ kn = 6 then (if g_s kd vl 44 k then (0, ((if kn = 3 then 4 else 3), 0, bg, [], pr) :: R, o - n_cn ops, k + 1, false, out ++ ops.map d_st) else n_bad)
  else if g_s kd vl (if kn = 5 then 93 else 41) k then n_pop kn ops pr R o k out else n_bad
def n_st (kd vl : Nat → Int32) (w : Int) : n_S → n_S
  | (0, (kn, ph, bg, ops, pr) :: R, o, k, false, out) => n_opd kd vl w kn ph bg ops pr R o k out
  | (0, (kn, ph, bg, ops, pr) :: R, o, k, true, out) => n_go kd vl kn ph bg ops pr R o k out
  | s => s
def n_it (kd vl : Nat → Int32) (w : Int) : Nat → n_S → n_S
  | 0, s => s
  | n + 1, s => n_it kd vl w n (n_st kd vl w s)
def n_R (kd vl : Nat → Int32) (w : Int) (s t : n_S) : Prop := ∃ n, n_it kd vl w n s = t
section NR
variable {kd vl : Nat → Int32} {w : Int} {s t u : n_S} {kn ph pr l l' : Int} {bg : Bool} {ops pend : List Int} {R : List n_F} {o k : Nat} {out : List Int}
theorem n_R.rf : n_R kd vl w s s := ⟨0, rfl⟩
theorem n_it_add : ∀ (a b : Nat) (s : n_S), n_it kd vl w (a + b) s = n_it kd vl w b (n_it kd vl w a s)
  | 0, b, s => by rw [Nat.zero_add]; rfl
  | a + 1, b, s => by rw [Nat.succ_add]; exact n_it_add a b (n_st kd vl w s)
theorem n_R.tr (h1 : n_R kd vl w s t) (h2 : n_R kd vl w t u) : n_R kd vl w s u := by
  obtain ⟨a, h1⟩ := h1
  obtain ⟨b, h2⟩ := h2
  exact ⟨a + b, by rw [n_it_add, h1, h2]⟩
theorem n_R.st (e : n_st kd vl w s = t) : n_R kd vl w s t := ⟨1, e⟩
theorem n_it_end (h : n_st kd vl w s = s) : ∀ n, n_it kd vl w n s = s
  | 0 => rfl
  | n + 1 => by show n_it kd vl w n (n_st kd vl w s) = s; rw [h]; exact n_it_end h n
theorem n_R.det (h1 : n_R kd vl w s t) (h2 : n_R kd vl w s u) (e1 : n_st kd vl w t = t) (e2 : n_st kd vl w u = u) : t = u := by
  obtain ⟨a, h1⟩ := h1
  obtain ⟨b, h2⟩ := h2
  have h3 := n_it_add (kd := kd) (vl := vl) (w := w) a b s
  have h4 := n_it_add (kd := kd) (vl := vl) (w := w) b a s
  rw [h1, n_it_end e1] at h3
  rw [h2, n_it_end e2, Nat.add_comm] at h4
  exact h3.symm.trans h4
/-- no operator on top that is of rank l or more; all of them are -/
def n_HD (l : Int) (ops : List Int) : Prop := ∀ t r, ops = t :: r → dk_rk t < l
def n_AL (l : Int) (p : List Int) : Prop := ∀ t ∈ p, l ≤ dk_rk t
theorem n_HD.nil : n_HD l [] := fun t r h => (by cases h)
theorem n_HD.cons {t : Int} (h : dk_rk t < l) : n_HD l (t :: ops) := fun t' r e => by
  injection e with e1 e2
  rw [← e1]
  exact h
theorem n_HD.wk (h : n_HD l ops) (hl : l ≤ l') : n_HD l' ops := fun t r e => Int.lt_of_lt_of_le (h t r e) hl
theorem n_AL.nil : n_AL l [] := fun t h => (by cases h)
theorem n_AL.wk (h : n_AL l pend) (hl : l' ≤ l) : n_AL l' pend := fun t ht => Int.le_trans hl (h t ht)
theorem n_AL.snoc {t : Int} (h : n_AL l pend) (ht : l ≤ dk_rk t) : n_AL l (pend ++ [t]) := fun x hx => by
  rw [List.mem_append] at hx
  rcases hx with hx | hx
  · exact h x hx
  · rw [List.mem_singleton] at hx
    rw [hx]
    exact ht
theorem n_split : ∀ {pend : List Int}, n_AL l pend → n_HD l ops → n_hi l (pend ++ ops) = pend ∧ n_lo l (pend ++ ops) = ops
  | [], _, h => by
    unfold n_hi n_lo
    cases ops with
    | nil => exact ⟨rfl, rfl⟩
    | cons t r =>
      have h1 := h t r rfl
      rw [List.nil_append, List.takeWhile_cons, List.dropWhile_cons, if_neg (by rw [decide_eq_true_eq]; omega), if_neg (by rw [decide_eq_true_eq]; omega)]
      exact ⟨rfl, rfl⟩
  | t :: p, ha, h => by
    have ih := n_split (pend := p) (fun x hx => ha x (List.mem_cons_of_mem t hx)) h
    have h1 := ha t List.mem_cons_self
    unfold n_hi n_lo at ih ⊢
    rw [List.cons_append, List.takeWhile_cons, List.dropWhile_cons, if_pos (by rw [decide_eq_true_eq]; exact h1), if_pos (by rw [decide_eq_true_eq]; exact h1), ih.1, ih.2]
    exact ⟨rfl, rfl⟩
theorem n_cn_app : ∀ (a b : List Int), n_cn (a ++ b) = n_cn a + n_cn b
  | [], b => by rw [List.nil_append]; show _ = 0 + _; omega
  | t :: a, b => by
    show (if t = 43 then 1 else 0) + n_cn (a ++ b) = (if t = 43 then 1 else 0) + n_cn a + n_cn b
    rw [n_cn_app a b]
    omega
theorem n_st_f : n_st kd vl w (0, (kn, ph, bg, ops, pr) :: R, o, k, false, out) = n_opd kd vl w kn ph bg ops pr R o k out := rfl
theorem n_st_t : n_st kd vl w (0, (kn, ph, bg, ops, pr) :: R, o, k, true, out) = n_go kd vl kn ph bg ops pr R o k out := rfl
theorem n_noop (h : ph < 2 → g_so kd vl k = false ∧ g_po kd vl k = false) : (decide (ph < 2) && g_so kd vl k) = false ∧ (decide (ph < 2) && g_po kd vl k) = false := by
  by_cases q : ph < 2
  · rw [(h q).1, (h q).2]; simp
  · simp [q]
theorem g_so_po (h : g_so kd vl k = true) : g_po kd vl k = false := by
  unfold g_so at h
  rw [Bool.or_eq_true] at h
  refine g_po_f ?_ ?_ ?_
  all_goals
    rcases h with h | h
    all_goals
      apply Bool.eq_false_iff.mpr
      intro q
      have a := g_s_iff.mp q
      have b := g_s_iff.mp h
      omega
theorem n_go_so (hp : ph < 2) (h : g_so kd vl k = true) : n_go kd vl kn ph bg ops pr R o k out = (0, (kn, ph, bg, n_sg kd vl k :: n_lo 5 ops, pr) :: R, o, k + 1, false, out ++ (n_hi 5 ops).map d_st) := by
  unfold n_go
  rw [if_pos (by rw [h, Bool.and_true, decide_eq_true_eq]; exact hp)]
theorem n_go_po (hp : ph < 2) (h : g_po kd vl k = true) : n_go kd vl kn ph bg ops pr R o k out = (0, (kn, ph, bg, n_sg kd vl k :: n_lo 6 ops, pr) :: R, o, k + 1, false, out ++ (n_hi 6 ops).map d_st) := by
  have h2 : g_so kd vl k = false := by
    apply Bool.eq_false_iff.mpr
    intro q
    have := g_so_po q
    rw [h] at this
    cases this
  unfold n_go
  rw [h2, Bool.and_false, if_neg (by decide), if_pos (by rw [h, Bool.and_true, decide_eq_true_eq]; exact hp)]
theorem n_go_2 (h : ph < 2 → g_so kd vl k = false ∧ g_po kd vl k = false) : n_go kd vl 2 ph bg ops pr R o k out = if g_s kd vl 41 k then n_pop 2 ops pr R o k out else n_bad := by
  unfold n_go
  rw [(n_noop h).1, (n_noop h).2]
  simp [m_tst]
theorem n_go_4 (h : ph < 2 → g_so kd vl k = false ∧ g_po kd vl k = false) : n_go kd vl 4 ph bg ops pr R o k out = if g_s kd vl 41 k then n_pop 4 ops pr R o k out else n_bad := by
  unfold n_go
  rw [(n_noop h).1, (n_noop h).2]
  simp [m_tst]
theorem n_go_3 (h : ph < 2 → g_so kd vl k = false ∧ g_po kd vl k = false) : n_go kd vl 3 ph bg ops pr R o k out = if g_s kd vl 44 k then (0, (4, 0, bg, [], pr) :: R, o - n_cn ops, k + 1, false, out ++ ops.map d_st) else n_bad := by
  unfold n_go
  rw [(n_noop h).1, (n_noop h).2]
  simp [m_tst]
theorem n_go_6 (h : ph < 2 → g_so kd vl k = false ∧ g_po kd vl k = false) (h0 : ph ≠ 0) (h1 : g_o kd vl 22 k = false) (h2 : g_o kd vl 21 k = false) : n_go kd vl 6 ph bg ops pr R o k out = if g_s kd vl 44 k then (0, (3, 0, bg, [], pr) :: R, o - n_cn ops, k + 1, false, out ++ ops.map d_st) else n_bad := by
  unfold n_go
  rw [(n_noop h).1, (n_noop h).2]
  simp [m_tst, h0, h1, h2]
theorem n_go_5 (h : ph < 2 → g_so kd vl k = false ∧ g_po kd vl k = false) (h0 : ph ≠ 0) (h1 : g_o kd vl 22 k = false) (h2 : g_o kd vl 21 k = false) : n_go kd vl 5 ph bg ops pr R o k out = if g_s kd vl 93 k then n_pop 5 ops pr R o k out else n_bad := by
  unfold n_go
  rw [(n_noop h).1, (n_noop h).2]
  simp [m_tst, h0, h1, h2]
theorem n_go_1 (h : ph < 2 → g_so kd vl k = false ∧ g_po kd vl k = false) (h0 : ph ≠ 0) (h1 : g_o kd vl 22 k = false) (h2 : g_o kd vl 21 k = false) : n_go kd vl 1 ph bg ops pr R o k out = (1, (1, ph, bg, [], pr) :: R, o - n_cn ops, k, true, out ++ ops.map d_st) := by
  unfold n_go
  rw [(n_noop h).1, (n_noop h).2]
  simp [m_tst, h0, h1, h2]
theorem n_go_0 (h : ph < 2 → g_so kd vl k = false ∧ g_po kd vl k = false) : n_go kd vl 0 ph bg ops pr R o k out = (1, (0, ph, bg, [], pr) :: R, o - n_cn ops, k, true, out ++ ops.map d_st) := by
  unfold n_go
  rw [(n_noop h).1, (n_noop h).2]
  simp [m_tst]
theorem n_go_co (ht : m_tst kn = true) (h : g_so kd vl k = false ∧ g_po kd vl k = false) : n_go kd vl kn 0 bg ops pr R o k out = if g_co kd vl k then (0, (kn, 1, bg, n_cp kd vl k :: n_lo 5 ops, pr) :: R, o, k + 1, false, out ++ (n_hi 5 ops).map d_st) else n_bad := by
  unfold n_go
  rw [(n_noop (ph := 0) (fun _ => h)).1, (n_noop (ph := 0) (fun _ => h)).2]
  simp [ht]
theorem n_go_and (ht : m_tst kn = true) (h : ph < 2 → g_so kd vl k = false ∧ g_po kd vl k = false) (h0 : ph ≠ 0) (h1 : g_o kd vl 22 k = true) : n_go kd vl kn ph bg ops pr R o k out = (0, (kn, 0, true, 41 :: n_lo 2 ops, pr) :: R, o - n_cn (n_hi 2 ops), k + 1, false, out ++ (n_hi 2 ops).map d_st) := by
  unfold n_go
  rw [(n_noop h).1, (n_noop h).2]
  simp [ht, h0, h1]
theorem n_go_or (ht : m_tst kn = true) (h : ph < 2 → g_so kd vl k = false ∧ g_po kd vl k = false) (h0 : ph ≠ 0) (h1 : g_o kd vl 21 k = true) : n_go kd vl kn ph bg ops pr R o k out = (0, (kn, 0, true, 42 :: n_lo 1 ops, pr) :: R, o - n_cn (n_hi 1 ops), k + 1, false, out ++ (n_hi 1 ops).map d_st) := by
  unfold n_go
  rw [(n_noop h).1, (n_noop h).2, g_oo (d := 22) h1 (by decide)]
  simp [ht, h0, h1]
theorem n_pop_e {a b : Int} {c : Bool} {d : List Int} {p : Int} {R' : List n_F} : n_pop kn ops pr ((a, b, c, d, p) :: R') o k out = (0, (a, if kn = 5 then 2 else b, c, d, p) :: R', o - n_cn ops - 1, k + 1, true, out ++ ops.map d_st ++ (if kn = 4 then [d_st pr] else [])) := rfl
theorem d_sg_so (h : g_so kd vl k = true) : d_st (n_sg kd vl k) = d_so kd vl k ∧ dk_rk (n_sg kd vl k) = 5 ∧ n_sg kd vl k ≠ 43 := by
  unfold n_sg d_so
  by_cases q : g_s kd vl 43 k = true
  · rw [if_pos q, if_pos q]; exact ⟨by decide, by decide, by decide⟩
  · unfold g_so at h
    rw [Bool.or_eq_true] at h
    rcases h with h | h
    · exact absurd h q
    · rw [if_neg q, if_neg q, if_pos h]; exact ⟨by decide, by decide, by decide⟩
theorem d_sg_po (h : g_po kd vl k = true) : d_st (n_sg kd vl k) = d_po kd vl k ∧ dk_rk (n_sg kd vl k) = 6 ∧ n_sg kd vl k ≠ 43 := by
  have h2 : g_so kd vl k = false := by
    apply Bool.eq_false_iff.mpr
    intro q
    have := g_so_po q
    rw [h] at this
    cases this
  unfold g_so at h2
  rw [Bool.or_eq_false_iff] at h2
  unfold n_sg d_po
  rw [h2.1, h2.2]
  by_cases q : g_s kd vl 42 k = true
  · rw [if_pos q, if_pos q]; exact ⟨by decide, by decide, by decide⟩
  · rw [if_neg q, if_neg q]
    by_cases q2 : g_s kd vl 47 k = true
    · rw [if_pos q2, if_pos q2]; exact ⟨by decide, by decide, by decide⟩
    · rw [if_neg q2, if_neg q2]; exact ⟨by decide, by decide, by decide⟩
theorem d_cp_co (h : g_co kd vl k = true) : d_st (n_cp kd vl k) = d_co kd vl k ∧ dk_rk (n_cp kd vl k) = 4 ∧ n_cp kd vl k ≠ 43 := by
  unfold n_cp d_co
  by_cases q : g_s kd vl 60 k = true
  · rw [if_pos q, if_pos q]; exact ⟨by decide, by decide, by decide⟩
  · rw [if_neg q, if_neg q]
    by_cases q2 : g_s kd vl 62 k = true
    · rw [if_pos q2, if_pos q2]; exact ⟨by decide, by decide, by decide⟩
    · rw [if_neg q2, if_neg q2]; exact ⟨by decide, by decide, by decide⟩
end NR
end
section
/-! what is written into the row of steps, from where it stood: L; what lies below stays -/
def q_as (g : Nat) (S S1 : dg_S) (a : Int32) (L : List Int) : Prop := ∃ b : Int32, S1.1 209 7 = .int b ∧ b.toInt = a.toInt + L.length ∧ 0 ≤ a.toInt ∧ (∀ j : Nat, (j : Int) < a.toInt → S1.2.1 (g + 9) j = S.2.1 (g + 9) j) ∧ ∀ j : Nat, j < L.length → (S1.2.1 (g + 9) (a.toNatClampNeg + j)).toInt = L.getD j 0
section QAS
variable {g : Nat} {S S1 S2 S3 : dg_S} {a b v : Int32} {L L1 L2 L' : List Int}
theorem q_as.put (h7 : S1.1 209 7 = .int b) (hb : b.toInt = a.toInt + 1) (h0 : 0 ≤ a.toInt) (hr : S1.2.1 (g + 9) = upd (S.2.1 (g + 9)) a.toNatClampNeg v) : q_as g S S1 a [v.toInt] := by
  have ha := dk_clN a
  refine ⟨b, h7, hb, h0, fun j hj => ?_, fun j hj => ?_⟩
  · rw [hr]
    exact if_neg (by omega)
  · have hj : j < 1 := hj
    have e : j = 0 := by omega
    subst e
    rw [hr]
    exact congrArg Int32.toInt (if_pos rfl)
theorem q_as.tr (h1 : q_as g S S1 a L1) (e7 : S2.1 209 7 = S1.1 209 7) (er : S2.2.1 (g + 9) = S1.2.1 (g + 9)) (f : S2.1 209 7 = .int b) (h2 : q_as g S2 S3 b L2) : q_as g S S3 a (L1 ++ L2) := by
  obtain ⟨b1, f1, n1, h0, k1, w1⟩ := h1
  obtain ⟨b2, f2, n2, h0', k2, w2⟩ := h2
  have eb := f.symm.trans (e7.trans f1)
  cases eb
  have ha := dk_clN a
  have hb := dk_clN b
  refine ⟨b2, f2, ?_, h0, fun j hj => ?_, fun j hj => ?_⟩
  · rw [List.length_append]
    omega
  · rw [k2 j (by omega), er]
    exact k1 j hj
  · by_cases q : j < L1.length
    · rw [k2 _ (by omega), er, w1 j q, List.getD_eq_getElem?_getD, List.getD_eq_getElem?_getD, List.getElem?_append_left q]
    · rw [List.length_append] at hj
      have h := w2 (j - L1.length) (by omega)
      rw [show b.toNatClampNeg + (j - L1.length) = a.toNatClampNeg + j by omega] at h
      rw [h, List.getD_eq_getElem?_getD, List.getD_eq_getElem?_getD, List.getElem?_append_right (by omega)]
theorem q_as.fst (er : S2.2.1 (g + 9) = S.2.1 (g + 9)) (h : q_as g S2 S3 a L) : q_as g S S3 a L := by
  obtain ⟨b2, f2, n2, h0, k2, w2⟩ := h
  exact ⟨b2, f2, n2, h0, fun j hj => (k2 j hj).trans (congrFun er j), w2⟩
theorem q_as.keep (h : q_as g S S1 a L) (e7 : S2.1 209 7 = S1.1 209 7) (er : S2.2.1 (g + 9) = S1.2.1 (g + 9)) : q_as g S S2 a L := by
  obtain ⟨b1, f1, n1, h0, k1, w1⟩ := h
  exact ⟨b1, e7.trans f1, n1, h0, fun j hj => (congrFun er j).trans (k1 j hj), fun j hj => (congrArg Int32.toInt (congrFun er _)).trans (w1 j hj)⟩
theorem q_as.to (h : q_as g S S1 a L) (e : L' = L) : q_as g S S1 a L' := by
  rw [e]
  exact h
/-- the road of a loop: D is what has been written and what comes yet -/
def q_it (c : Int32) (g : Nat) (S S1 : dg_S) (a : Int32) (D : List Int) (op : Nat → Bool) (p : Nat → Option Nat) (cp : d_C) (st : Nat → Int) (f k : Nat) : Prop := c.toInt = 1 → ∃ L, q_as g S S1 a L ∧ D = L ++ d_loop op p cp st f k
variable {op : Nat → Bool} {p : Nat → Option Nat} {cp : d_C} {st : Nat → Int} {D : List Int} {f f' k y : Nat} {x c : Int32}
theorem q_it.start (hD : D = cp k ++ d_loop op p cp st f ((p k).getD 0)) (A : g_ans x (p k) y) (h : x.toInt = 1 → q_as g S S1 a (cp k)) : q_it x g S S1 a D op p cp st f y := fun q => ⟨cp k, h q, by rw [hD, A.1 q]; rfl⟩
theorem q_it.step {w : Int} (h : q_it c g S S2 a D op p cp st f k) (hc : c.toInt = 1) (hf : f = f' + 1) (ho : op k = true) (A : g_ans x (p (k + 1)) y) (fb : S2.1 209 7 = .int b) (h2 : x.toInt = 1 → q_as g S2 S1 b (cp (k + 1) ++ [w])) (hs : w = st k) : q_it x g S S1 a D op p cp st f' y := fun q => by
  obtain ⟨L, hL, e⟩ := h hc
  refine ⟨L ++ (cp (k + 1) ++ [w]), hL.tr rfl rfl fb (h2 q), ?_⟩
  rw [e, hf]
  show L ++ (if op k then cp (k + 1) ++ st k :: d_loop op p cp st f' ((p (k + 1)).getD 0) else []) = _
  rw [if_pos ho, A.1 q, hs]
  simp
theorem q_it.stop (h : q_it c g S S1 a D op p cp st f k) (hx : c.toInt = 1 → f = 0 ∨ op k = false) : c.toInt = 1 → q_as g S S1 a D := fun q => by
  obtain ⟨L, hL, e⟩ := h q
  have : d_loop op p cp st f k = [] := by
    rcases hx q with z | z
    · subst z
      rfl
    · cases f with
      | zero => rfl
      | succ f =>
        show (if op k then _ else []) = _
        rw [if_neg (by rw [z]; decide)]
  rw [this, List.append_nil] at e
  exact hL.to e
end QAS
section DLE
variable {kd vl : Nat → Int32} {w : Int} {e k : Nat} {p : Nat → Option Nat} {cp : d_C}
theorem d_prod_e : d_prod kd vl p cp k = cp k ++ d_loop (g_po kd vl) p cp (d_po kd vl) 1600 ((p k).getD 0) := by
  unfold d_prod
  rfl
theorem d_sum_e : d_sum kd vl p cp k = d_prod kd vl p cp k ++ d_loop (g_so kd vl) (x_prod kd vl p) (d_prod kd vl p cp) (d_so kd vl) 1600 ((x_prod kd vl p k).getD 0) := by
  unfold d_sum
  rfl
theorem d_both_e : d_both kd vl p cp k = cp k ++ d_loop (g_o kd vl 22) p cp (fun _ => -20) 1600 ((p k).getD 0) := by
  unfold d_both
  rfl
theorem d_test_e : d_test kd vl p cp k = d_both kd vl p cp k ++ d_loop (g_o kd vl 21) (x_both kd vl p) (d_both kd vl p cp) (fun _ => -21) 1600 ((x_both kd vl p k).getD 0) := by
  unfold d_test
  rfl
theorem d_lv_s : (d_lv kd vl w (e + 1)).1 k = d_sum kd vl (x_part kd vl w (x_lv kd vl w e).1 (x_lv kd vl w e).2.1) (d_part kd vl (x_lv kd vl w e).1 (x_lv kd vl w e).2.1 (d_lv kd vl w e).1 (d_lv kd vl w e).2.1) k := by
  rw [d_lv]
theorem d_lv_t : (d_lv kd vl w (e + 1)).2.1 k = d_test kd vl (x_lv kd vl w (e + 1)).2.2 (d_lv kd vl w (e + 1)).2.2 k := by
  rw [d_lv]
theorem d_lv_f : (d_lv kd vl w (e + 1)).2.2 k = d_fact kd vl (x_lv kd vl w (e + 1)).1 (d_lv kd vl w e).2.2 (d_lv kd vl w e).2.1 (d_lv kd vl w (e + 1)).1 k := by
  rw [d_lv]
end DLE
section DFW
variable {kd vl : Nat → Int32} {k : Nat}
theorem d_fw_1 (h : (kd k).toInt = 1) (hv : (vl k).toInt = 5) : d_fw kd vl k = -1 := by
  unfold d_fw
  rw [if_pos (g_o_iff.mpr ⟨h, hv⟩)]
theorem g_o_no {c : Int} (hv : (vl k).toInt ≠ c) : ¬ g_o kd vl c k = true := fun q => hv (g_o_iff.mp q).2
theorem d_fw_2 (h : (kd k).toInt = 1) (hv : (vl k).toInt = 15) : d_fw kd vl k = -2 := by
  unfold d_fw
  rw [if_neg (g_o_no (by omega)), if_pos (g_o_iff.mpr ⟨h, hv⟩)]
theorem d_fw_3 (h : (kd k).toInt = 1) (hv : (vl k).toInt = 16) : d_fw kd vl k = -3 := by
  unfold d_fw
  rw [if_neg (g_o_no (by omega)), if_neg (g_o_no (by omega)), if_pos (g_o_iff.mpr ⟨h, hv⟩)]
theorem d_fw_4 (h : (kd k).toInt = 1) (hv : (vl k).toInt = 17) : d_fw kd vl k = -4 := by
  unfold d_fw
  rw [if_neg (g_o_no (by omega)), if_neg (g_o_no (by omega)), if_neg (g_o_no (by omega)), if_pos (g_o_iff.mpr ⟨h, hv⟩)]
theorem d_fw_5 (h : (kd k).toInt = 1) (hv : (vl k).toInt = 18) : d_fw kd vl k = -5 := by
  unfold d_fw
  rw [if_neg (g_o_no (by omega)), if_neg (g_o_no (by omega)), if_neg (g_o_no (by omega)), if_neg (g_o_no (by omega)), if_pos (g_o_iff.mpr ⟨h, hv⟩)]
theorem d_fw_6 (hv : (vl k).toInt = 19) : d_fw kd vl k = -6 := by
  unfold d_fw
  rw [if_neg (g_o_no (by omega)), if_neg (g_o_no (by omega)), if_neg (g_o_no (by omega)), if_neg (g_o_no (by omega)), if_neg (g_o_no (by omega))]
end DFW
end
section
/-! what a text tells beyond names and counts: folded along its STATEMENTS -/
def z_go {D : Type} (kd vl : Nat → Int32) (stp : y_S → Nat → D → D) : Nat → Nat → y_S → D → Nat → D
  | 0, _, _, d, _ => d
  | f + 1, i, σ, d, k => if i ≠ 0 ∧ (kd k).toInt = 0 then d else match y_one kd vl i σ k with
    | none => d
    | some p => match g_tk kd vl 59 p.2 with
      | none => d
      | some k' => z_go kd vl stp f (i + 1) p.1 (stp σ k d) k'
def z_all {D : Type} (kd vl : Nat → Int32) (stp : y_S → Nat → D → D) (d0 : D) : D := z_go kd vl stp 80 0 y_0 d0 0
def z_at {D : Type} (kd vl : Nat → Int32) (stp : y_S → Nat → D → D) (d0 : D) (i : Nat) (σ : y_S) (d : D) (k : Nat) : Prop := i ≤ 80 ∧ z_all kd vl stp d0 = z_go kd vl stp (80 - i) i σ d k
section ZDS
variable {D : Type} {kd vl : Nat → Int32} {stp : y_S → Nat → D → D} {d0 d : D} {i i' k k' yk : Nat} {σ σ' : y_S}
theorem z_at.zr : z_at kd vl stp d0 0 y_0 d0 0 := ⟨Nat.zero_le _, rfl⟩
theorem z_at.next (h : z_at kd vl stp d0 i σ d k) (hi : i ≠ 80) (hz : ¬ (i ≠ 0 ∧ (kd k).toInt = 0)) (h1 : y_one kd vl i σ k = some (σ', yk)) (h2 : g_tk kd vl 59 yk = some k') (hi' : i' = i + 1) : z_at kd vl stp d0 i' σ' (stp σ k d) k' := by
  obtain ⟨f, hf⟩ : ∃ f, 80 - i = f + 1 := ⟨80 - i - 1, by have := h.1; omega⟩
  refine ⟨by have := h.1; omega, ?_⟩
  rw [h.2, hf]
  show (if i ≠ 0 ∧ (kd k).toInt = 0 then d else _) = _
  rw [if_neg hz, h1]
  show (match g_tk kd vl 59 yk with | none => d | some k' => z_go kd vl stp f (i + 1) σ' (stp σ k d) k') = _
  rw [h2, hi', show 80 - (i + 1) = f by omega]
theorem z_at.done (h : z_at kd vl stp d0 i σ d k) (hi : i ≠ 0) (hz : (kd k).toInt = 0) : z_all kd vl stp d0 = d := by
  rw [h.2]
  cases q : 80 - i with
  | zero => rfl
  | succ f =>
    show (if i ≠ 0 ∧ (kd k).toInt = 0 then d else _) = _
    rw [if_pos ⟨hi, hz⟩]
end ZDS
/-- the shaft's column -/
def z_sh (kd vl : Nat → Int32) (_ : y_S) (k : Nat) (d : Int) : Int := if g_o kd vl 2 k then (vl (k + 1)).toInt else d
theorem z_sh.yy {kd vl : Nat → Int32} {σ : y_S} {k : Nat} {d : Int} (hk : (kd k).toInt = 1) (hv : (vl k).toInt = 2) : z_sh kd vl σ k d = (vl (k + 1)).toInt := by
  unfold z_sh
  rw [if_pos (g_o_iff.mpr ⟨hk, hv⟩)]
theorem z_sh.nn {kd vl : Nat → Int32} {σ : y_S} {k : Nat} {d : Int} (hv : (vl k).toInt ≠ 2) : z_sh kd vl σ k d = d := by
  unfold z_sh
  rw [if_neg (fun z => hv (g_o_iff.mp z).2)]
/-- the class's shaft by its place: none ahead of the first STATEMENT -/
def zs9 (i s : Int) : Int := if i = 0 then 0 else s - 8
theorem zs9.st {kd vl : Nat → Int32} {k : Nat} {i i' s s' : Int} (h0 : 0 ≤ i) (hi : i' = i + 1) (h : True → (i = 0 → s' = 8 ∧ z_sh kd vl y_0 k 0 = 0) ∧ (i ≠ 0 → s' - 8 = z_sh kd vl y_0 k (s - 8))) {σ : y_S} : z_sh kd vl σ k (zs9 i s) = zs9 i' s' := by
  obtain ⟨h1, h2⟩ := h trivial
  show z_sh kd vl y_0 k (zs9 i s) = zs9 i' s'
  unfold zs9
  rw [if_neg (show ¬ i' = 0 by omega)]
  by_cases q : i = 0
  · obtain ⟨a, b⟩ := h1 q
    rw [if_pos q, b, a]
    rfl
  · rw [if_neg q, h2 q]
theorem z_at.to {D : Type} {kd vl : Nat → Int32} {stp : y_S → Nat → D → D} {d0 d d' : D} {i k : Nat} {σ : y_S} (h : z_at kd vl stp d0 i σ d k) (e : d = d') : z_at kd vl stp d0 i σ d' k := by
  rw [← e]
  exact h
theorem z_at.start {kd vl : Nat → Int32} {stp : y_S → Nat → Int → Int} {cx ry mi pl od ii : Int32} {fm fo fr fe : Nat → Int32} {i k : Nat} {s : Int} (hm : mi.toInt = 0) (hp : pl.toInt = 0) (ho : od.toInt = 0) (hc : cx.toInt = 0) (hr : ry.toInt = 0) (hf : ∀ j : Nat, j < 3 → (fr j).toInt = 0) (he : ∀ j : Nat, j < 3 → (fe j).toInt = 0) (hi : i = 0) (hk : k = 0) {i9 : Int} (h9 : i9 = 0) : z_at kd vl stp 0 i (y_gx cx ry fm mi pl fo od fr fe) (zs9 i9 s) k := by
  have e1 := dk_clN mi
  have e2 := dk_clN pl
  have e3 := dk_clN od
  have e : y_gx cx ry fm mi pl fo od fr fe = y_0 := by
    unfold y_gx y_0
    rw [hc, hr, show mi.toNatClampNeg = 0 by omega, show pl.toNatClampNeg = 0 by omega, show od.toNatClampNeg = 0 by omega, hf 0 (by decide), hf 1 (by decide), hf 2 (by decide), he 0 (by decide), he 1 (by decide), he 2 (by decide)]
    rfl
  rw [e, hi, hk, h9]
  exact z_at.zr
theorem z_sh.ff {kd vl : Nat → Int32} {σ : y_S} {k : Nat} {d : Int} (h : g_o kd vl 2 k = false) : z_sh kd vl σ k d = d := by
  unfold z_sh
  rw [if_neg (by rw [h]; decide)]
theorem y_seam_m {kd vl : Nat → Int32} {k : Nat} {f : Nat → y_S × Nat} {p : y_S × Nat} (h : (y_seam kd vl k).map f = some p) (hk : k = 0) : g_o kd vl 2 0 = false := by
  subst hk
  unfold y_seam at h
  cases q : y_own kd vl 0 0 with
  | none => rw [q] at h; cases h
  | some k1 =>
    have h1 := g_o_iff.mp (y_own_o q).1
    cases q2 : g_o kd vl 2 0 with
    | false => rfl
    | true =>
      have h2 := g_o_iff.mp q2
      omega
end
section
/-! what a text tells of a ground: numbers, rules' steps; told along its STATEMENTS -/
abbrev k_D : Type := aR × (Nat → List Int)
/-- which of the names it is -/
def z_ix : List Int → Int → Int
  | [], _ => 0
  | x :: r, v => if x = v then 0 else z_ix r v + 1
theorem z_ix_of {v : Int} : ∀ (M : List Int) (i : Nat), M[i]? = some v → (∀ j, j < i → M[j]? ≠ some v) → z_ix M v = i
  | [], i, h, _ => by rw [List.getElem?_nil] at h; cases h
  | x :: r, 0, h, _ => by
    have e : x = v := by simpa using h
    show (if x = v then (0 : Int) else _) = _
    rw [if_pos e]
    rfl
  | x :: r, i + 1, h, hn => by
    have e : x ≠ v := fun z => hn 0 (Nat.succ_pos i) (by rw [z]; rfl)
    have ih := z_ix_of r i (by simpa using h) (fun j hj z => hn (j + 1) (by omega) (by simpa using z))
    show (if x = v then (0 : Int) else z_ix r v + 1) = _
    rw [if_neg e, ih]
    push_cast
    rfl
theorem y_nm_get {f : Nat → Int32} {m i : Nat} (h : i < m) : (y_nm f m)[i]? = some (f i).toInt := by
  unfold y_nm
  rw [List.getElem?_map, List.getElem?_range h]
  rfl
theorem z_ix_nm {f : Nat → Int32} {m i : Nat} {v : Int} (h : i < m) (e : (f i).toInt = v) (hn : ∀ j, j < i → (f j).toInt ≠ v) : z_ix (y_nm f m) v = i := by
  refine z_ix_of _ i (by rw [y_nm_get h, e]) (fun j hj z => ?_)
  rw [y_nm_get (by omega)] at z
  exact hn j hj (Option.some.inj z)
def k_0 : k_D := (fun r i => if r = 0 ∧ i = 3 then 3 else if r = 1 then 5 else 0, fun _ => [])
def k_st (kd vl : Nat → Int32) (σ : y_S) (k : Nat) (d : k_D) : k_D :=
  if (vl k).toInt = 0 then (s_up (s_up (s_up d.1 0 0 (vl (k + 1)).toInt) 0 1 (vl (k + 3)).toInt) 0 2 0, d.2)
  else if (vl k).toInt = 2 then (s_up d.1 0 2 (vl (k + 1)).toInt, d.2)
  else if (vl k).toInt = 3 then (s_up d.1 0 3 (vl (k + 1)).toInt, d.2)
  else if (vl k).toInt = 4 then (s_up d.1 0 4 (vl (k + 1)).toInt, d.2)
  else if (vl k).toInt = 5 then (s_up d.1 1 (8 * (vl (k + 2)).toInt + (vl (k + 1)).toInt).toNat (vl (k + 3)).toInt, d.2)
  else if (vl k).toInt = 6 then (s_up d.1 0 5 (d.1 0 5 + 1), d.2)
  else if (vl k).toInt = 7 then (s_up (s_up (s_up d.1 5 (d.1 0 6).toNat (z_ix σ.2.1 (vl (k + 1)).toInt)) 6 (d.1 0 6).toNat (8 * (vl (k + 4)).toInt + (vl (k + 3)).toInt)) 0 6 (d.1 0 6 + 1), d.2)
  else if (vl k).toInt = 9 then (s_up (s_up (s_up (s_up d.1 2 (d.1 0 7).toNat (vl (k + 3)).toInt) 3 (d.1 0 7).toNat (vl (k + 5)).toInt) 4 (d.1 0 7).toNat (vl (k + 7)).toInt) 0 7 (d.1 0 7 + 1), d.2)
  else (d.1, fun j => if (j : Int) = (vl k).toInt - 12 then d_rule kd vl ((vl k).toInt - 12) (k + 1) else d.2 j)
theorem y_old_k {kd vl : Nat → Int32} {M : List Int} {k k' : Nat} (h : y_old kd vl M k = some k') : k' = k + 1 := by
  unfold y_old at h
  split at h
  · exact (Option.some.inj h).symm
  · cases h
theorem y_cell_k {kd vl : Nat → Int32} {q : Int × Int} {k k' : Nat} (h : y_cell kd vl q k = some k') : k' = k + 2 := by
  unfold y_cell at h
  obtain ⟨k1, h1, h2⟩ := Option.bind_eq_some_iff.mp h
  have e1 := (y_num_o h1).2.2.2
  have e2 := (y_num_o h2).2.2.2
  omega
section KST
variable {kd vl : Nat → Int32} {σ : y_S} {k : Nat} {d : k_D}
theorem k_st_0 (h : (vl k).toInt = 0) : k_st kd vl σ k d = (s_up (s_up (s_up d.1 0 0 (vl (k + 1)).toInt) 0 1 (vl (k + 3)).toInt) 0 2 0, d.2) := by unfold k_st; rw [if_pos h]
theorem k_st_2 (h : (vl k).toInt = 2) : k_st kd vl σ k d = (s_up d.1 0 2 (vl (k + 1)).toInt, d.2) := by unfold k_st; rw [if_neg (by omega), if_pos h]
theorem k_st_3 (h : (vl k).toInt = 3) : k_st kd vl σ k d = (s_up d.1 0 3 (vl (k + 1)).toInt, d.2) := by unfold k_st; rw [if_neg (by omega), if_neg (by omega), if_pos h]
theorem k_st_4 (h : (vl k).toInt = 4) : k_st kd vl σ k d = (s_up d.1 0 4 (vl (k + 1)).toInt, d.2) := by unfold k_st; rw [if_neg (by omega), if_neg (by omega), if_neg (by omega), if_pos h]
theorem k_st_5 (h : (vl k).toInt = 5) : k_st kd vl σ k d = (s_up d.1 1 (8 * (vl (k + 2)).toInt + (vl (k + 1)).toInt).toNat (vl (k + 3)).toInt, d.2) := by unfold k_st; rw [if_neg (by omega), if_neg (by omega), if_neg (by omega), if_neg (by omega), if_pos h]
theorem k_st_6 (h : (vl k).toInt = 6) : k_st kd vl σ k d = (s_up d.1 0 5 (d.1 0 5 + 1), d.2) := by unfold k_st; rw [if_neg (by omega), if_neg (by omega), if_neg (by omega), if_neg (by omega), if_neg (by omega), if_pos h]
theorem k_st_7 (h : (vl k).toInt = 7) : k_st kd vl σ k d = (s_up (s_up (s_up d.1 5 (d.1 0 6).toNat (z_ix σ.2.1 (vl (k + 1)).toInt)) 6 (d.1 0 6).toNat (8 * (vl (k + 4)).toInt + (vl (k + 3)).toInt)) 0 6 (d.1 0 6 + 1), d.2) := by unfold k_st; rw [if_neg (by omega), if_neg (by omega), if_neg (by omega), if_neg (by omega), if_neg (by omega), if_neg (by omega), if_pos h]
theorem k_st_9 (h : (vl k).toInt = 9) : k_st kd vl σ k d = (s_up (s_up (s_up (s_up d.1 2 (d.1 0 7).toNat (vl (k + 3)).toInt) 3 (d.1 0 7).toNat (vl (k + 5)).toInt) 4 (d.1 0 7).toNat (vl (k + 7)).toInt) 0 7 (d.1 0 7 + 1), d.2) := by unfold k_st; rw [if_neg (by omega), if_neg (by omega), if_neg (by omega), if_neg (by omega), if_neg (by omega), if_neg (by omega), if_neg (by omega), if_pos h]
theorem k_st_r (h : 12 ≤ (vl k).toInt) : k_st kd vl σ k d = (d.1, fun j : Nat => if (j : Int) = (vl k).toInt - 12 then d_rule kd vl ((vl k).toInt - 12) (k + 1) else d.2 j) := by unfold k_st; rw [if_neg (by omega), if_neg (by omega), if_neg (by omega), if_neg (by omega), if_neg (by omega), if_neg (by omega), if_neg (by omega), if_neg (by omega)]
end KST
/-! the class's ground, while it is told -/
def kc (S : dg_S) (g w : Nat) (C : List Int) : Prop := ∃ fr : Int, 0 ≤ fr ∧ fr + C.length ≤ (zI S 209 7).toInt ∧ (S.2.1 (g + 10) w).toInt = fr ∧ (S.2.1 (g + 11) w).toInt = fr + C.length ∧ ∀ i, i < C.length → (S.2.1 (g + 9) (fr.toNat + i)).toInt = C.getD i 0
def kx0 (d : k_D) (S : dg_S) (g : Nat) : Prop := rX g ∧ ((zI S g 0).toInt = d.1 0 0 ∧ (zI S g 1).toInt = d.1 0 1 ∧ (zI S g 3).toInt = d.1 0 3 ∧ (zI S g 4).toInt = d.1 0 4 ∧ (zI S g 6).toInt = d.1 0 5 ∧ (zI S g 8).toInt = d.1 0 6 ∧ (zI S g 11).toInt = d.1 0 7) ∧ (∀ c : Nat, c < 64 → (S.2.1 (g + 1) (c + 8)).toInt = d.1 1 c) ∧ (∀ k : Nat, (k : Int) < d.1 0 6 → (S.2.1 (g + 3) k).toInt = d.1 5 k ∧ (S.2.1 (g + 4) k).toInt = d.1 6 k + 8) ∧ (∀ k : Nat, (k : Int) < d.1 0 7 → (S.2.1 (g + 6) k).toInt = d.1 2 k ∧ (S.2.1 (g + 7) k).toInt = d.1 3 k ∧ (S.2.1 (g + 8) k).toInt = d.1 4 k) ∧ ∀ w, w < 3 → kc S g w (d.2 w)
def kx (d : k_D) (S : dg_S) (g : Nat) : Prop := kx0 d S g ∧ (zI S g 2).toInt = d.1 0 2 + 8
section KX
variable {S S1 : dg_S} {g : Nat} {WF : List (Nat × Nat)} {WA : List Nat} {G : aR} {K : Nat → List Int} {d : k_D} {v v1 v2 v3 sc c9 : Int32} {C : List Int} {n : Nat}
theorem zI_sm (m : dg_sm shX WF WA S S1) (hg : rX g) (n : Nat) (h : (19, n) ∉ WF) : zI S1 g n = zI S g n := by
  unfold zI
  rw [m.1 g n _ (rX_0 g hg) h]
theorem zI_at (f : S1.1 g n = .int v) : (zI S1 g n).toInt = v.toInt := by rw [← zI_eq f]
theorem kc.keep (h : kc S g n C) (e9 : S1.2.1 (g + 9) = S.2.1 (g + 9)) (e10 : S1.2.1 (g + 10) = S.2.1 (g + 10)) (e11 : S1.2.1 (g + 11) = S.2.1 (g + 11)) (e7 : zI S1 209 7 = zI S 209 7) : kc S1 g n C := by
  obtain ⟨fr, h0, h1, h2, h3, h4⟩ := h
  exact ⟨fr, h0, by rw [e7]; exact h1, by rw [e10]; exact h2, by rw [e11]; exact h3, fun i hi => by rw [e9]; exact h4 i hi⟩
theorem z7_sm (m : dg_sm shX WF WA S S1) (h : (31, 7) ∉ WF) : zI S1 209 7 = zI S 209 7 := by
  unfold zI
  rw [m.1 209 7 _ sX_209 h]
/-- nothing of it is written -/
theorem kx0.keep (h : kx0 d S g) (m : dg_sm shX WF WA S S1) (hF : ∀ n, (19, n) ∉ WF) (h7 : (31, 7) ∉ WF) (hA : ∀ r, 20 ≤ r → r ≤ 30 → r ∉ WA) : kx0 d S1 g := by
  obtain ⟨hg, ⟨a0, a1, a3, a4, a6, a8, a11⟩, b1, b2, b3, b4⟩ := h
  have r1 := (m.2 (g + 1) _ (rX_1 g hg) (hA 20 (by decide) (by decide))).1
  have r3 := (m.2 (g + 3) _ (rX_3 g hg) (hA 22 (by decide) (by decide))).1
  have r4 := (m.2 (g + 4) _ (rX_4 g hg) (hA 23 (by decide) (by decide))).1
  have r6 := (m.2 (g + 6) _ (rX_6 g hg) (hA 25 (by decide) (by decide))).1
  have r7 := (m.2 (g + 7) _ (rX_7 g hg) (hA 26 (by decide) (by decide))).1
  have r8 := (m.2 (g + 8) _ (rX_8 g hg) (hA 27 (by decide) (by decide))).1
  have r9 := (m.2 (g + 9) _ (rX_9 g hg) (hA 28 (by decide) (by decide))).1
  have r10 := (m.2 (g + 10) _ (rX_10 g hg) (hA 29 (by decide) (by decide))).1
  have r11 := (m.2 (g + 11) _ (rX_11 g hg) (hA 30 (by decide) (by decide))).1
  refine ⟨hg, ⟨?_, ?_, ?_, ?_, ?_, ?_, ?_⟩, fun c hc => ?_, fun k hk => ?_, fun k hk => ?_, fun w hw => (b4 w hw).keep r9 r10 r11 (z7_sm m h7)⟩
  · rw [zI_sm m hg _ (hF _)]; exact a0
  · rw [zI_sm m hg _ (hF _)]; exact a1
  · rw [zI_sm m hg _ (hF _)]; exact a3
  · rw [zI_sm m hg _ (hF _)]; exact a4
  · rw [zI_sm m hg _ (hF _)]; exact a6
  · rw [zI_sm m hg _ (hF _)]; exact a8
  · rw [zI_sm m hg _ (hF _)]; exact a11
  · rw [r1]; exact b1 c hc
  · rw [r3, r4]; exact b2 k hk
  · rw [r6, r7, r8]; exact b3 k hk
theorem kx.keep (h : kx d S g) (m : dg_sm shX WF WA S S1) (hF : ∀ n, (19, n) ∉ WF) (h7 : (31, 7) ∉ WF) (hA : ∀ r, 20 ≤ r → r ≤ 30 → r ∉ WA) : kx d S1 g := by
  have hg := h.1.1
  exact ⟨h.1.keep m hF h7 hA, by rw [zI_sm m hg _ (hF _)]; exact h.2⟩
/-- only fields are written, by their numbers -/
theorem kx0.fld (h : kx0 (G, K) S g) (m : dg_sm shX WF [] S S1) (h7 : (31, 7) ∉ WF) (h8 : (19, 8) ∉ WF) (h11 : (19, 11) ∉ WF) {G' : aR} (e6 : G' 0 6 = G 0 6) (e7 : G' 0 7 = G 0 7) (er : ∀ r j, r ≠ 0 → G' r j = G r j) (f0 : (zI S1 g 0).toInt = G' 0 0) (f1 : (zI S1 g 1).toInt = G' 0 1) (f3 : (zI S1 g 3).toInt = G' 0 3) (f4 : (zI S1 g 4).toInt = G' 0 4) (f6 : (zI S1 g 6).toInt = G' 0 5) : kx0 (G', K) S1 g := by
  obtain ⟨hg, ⟨a0, a1, a3, a4, a6, a8, a11⟩, b1, b2, b3, b4⟩ := h
  have r1 := (m.2 (g + 1) _ (rX_1 g hg) (by simp)).1
  have r3 := (m.2 (g + 3) _ (rX_3 g hg) (by simp)).1
  have r4 := (m.2 (g + 4) _ (rX_4 g hg) (by simp)).1
  have r6 := (m.2 (g + 6) _ (rX_6 g hg) (by simp)).1
  have r7 := (m.2 (g + 7) _ (rX_7 g hg) (by simp)).1
  have r8 := (m.2 (g + 8) _ (rX_8 g hg) (by simp)).1
  have r9 := (m.2 (g + 9) _ (rX_9 g hg) (by simp)).1
  have r10 := (m.2 (g + 10) _ (rX_10 g hg) (by simp)).1
  have r11 := (m.2 (g + 11) _ (rX_11 g hg) (by simp)).1
  refine ⟨hg, ⟨f0, f1, f3, f4, f6, ?_, ?_⟩, fun c hc => ?_, fun k hk => ?_, fun k hk => ?_, fun w hw => (b4 w hw).keep r9 r10 r11 (z7_sm m h7)⟩
  · rw [zI_sm m hg _ h8]; exact a8.trans e6.symm
  · rw [zI_sm m hg _ h11]; exact a11.trans e7.symm
  · rw [r1]; exact (b1 c hc).trans (er 1 c (by decide)).symm
  · have hk : (k : Int) < G 0 6 := by rw [← e6]; exact hk
    rw [r3, r4]
    exact ⟨(b2 k hk).1.trans (er 5 k (by decide)).symm, (b2 k hk).2.trans (congrArg (· + 8) (er 6 k (by decide)).symm)⟩
  · have hk : (k : Int) < G 0 7 := by rw [← e7]; exact hk
    rw [r6, r7, r8]
    exact ⟨(b3 k hk).1.trans (er 2 k (by decide)).symm, (b3 k hk).2.1.trans (er 3 k (by decide)).symm, (b3 k hk).2.2.trans (er 4 k (by decide)).symm⟩
theorem s_up_r {r i a b : Nat} {x : Int} (h : a ≠ r) : s_up G r i x a b = G a b := s_up_ne (fun z => h z.1)
theorem s_up_i {r i a b : Nat} {x : Int} (h : b ≠ i) : s_up G r i x a b = G a b := s_up_ne (fun z => h z.2)
theorem kx.reach (h : kx (G, K) S g) (m : dg_sm shX [(19, 3), (31, 0), (31, 1), (31, 4), (31, 5)] [] S S1) (f : S1.1 g 3 = .int v) : kx (s_up G 0 3 v.toInt, K) S1 g := by
  obtain ⟨h, a2⟩ := h
  have hg := h.1
  obtain ⟨-, ⟨a0, a1, a3, a4, a6, a8, a11⟩, -⟩ := id h
  refine ⟨h.fld m (by decide) (by decide) (by decide) (s_up_i (by decide)) (s_up_i (by decide)) (fun r j hr => s_up_r hr) ?_ ?_ ?_ ?_ ?_, ?_⟩
  · rw [zI_sm m hg _ (by decide), s_up_i (by decide)]; exact a0
  · rw [zI_sm m hg _ (by decide), s_up_i (by decide)]; exact a1
  · rw [zI_at f, s_up_at]
  · rw [zI_sm m hg _ (by decide), s_up_i (by decide)]; exact a4
  · rw [zI_sm m hg _ (by decide), s_up_i (by decide)]; exact a6
  · rw [zI_sm m hg _ (by decide)]
    show _ = s_up G 0 3 v.toInt 0 2 + 8
    rw [s_up_i (by decide)]
    exact a2
theorem kx.quake (h : kx (G, K) S g) (m : dg_sm shX [(19, 4), (31, 0), (31, 1), (31, 4), (31, 5)] [] S S1) (f : S1.1 g 4 = .int v) : kx (s_up G 0 4 v.toInt, K) S1 g := by
  obtain ⟨h, a2⟩ := h
  have hg := h.1
  obtain ⟨-, ⟨a0, a1, a3, a4, a6, a8, a11⟩, -⟩ := id h
  refine ⟨h.fld m (by decide) (by decide) (by decide) (s_up_i (by decide)) (s_up_i (by decide)) (fun r j hr => s_up_r hr) ?_ ?_ ?_ ?_ ?_, ?_⟩
  · rw [zI_sm m hg _ (by decide), s_up_i (by decide)]; exact a0
  · rw [zI_sm m hg _ (by decide), s_up_i (by decide)]; exact a1
  · rw [zI_sm m hg _ (by decide), s_up_i (by decide)]; exact a3
  · rw [zI_at f, s_up_at]
  · rw [zI_sm m hg _ (by decide), s_up_i (by decide)]; exact a6
  · rw [zI_sm m hg _ (by decide)]
    show _ = s_up G 0 4 v.toInt 0 2 + 8
    rw [s_up_i (by decide)]
    exact a2
theorem kx.shaft (h : kx (G, K) S g) (m : dg_sm shX [(19, 2), (31, 0), (31, 1), (31, 4), (31, 5)] [] S S1) (f : S1.1 g 2 = .int v) {x : Int} (hv : v.toInt = x + 8) : kx (s_up G 0 2 x, K) S1 g := by
  obtain ⟨h, a2⟩ := h
  have hg := h.1
  obtain ⟨-, ⟨a0, a1, a3, a4, a6, a8, a11⟩, -⟩ := id h
  refine ⟨h.fld m (by decide) (by decide) (by decide) (s_up_i (by decide)) (s_up_i (by decide)) (fun r j hr => s_up_r hr) ?_ ?_ ?_ ?_ ?_, ?_⟩
  · rw [zI_sm m hg _ (by decide), s_up_i (by decide)]; exact a0
  · rw [zI_sm m hg _ (by decide), s_up_i (by decide)]; exact a1
  · rw [zI_sm m hg _ (by decide), s_up_i (by decide)]; exact a3
  · rw [zI_sm m hg _ (by decide), s_up_i (by decide)]; exact a4
  · rw [zI_sm m hg _ (by decide), s_up_i (by decide)]; exact a6
  · rw [zI_at f, hv]
    show x + 8 = s_up G 0 2 x 0 2 + 8
    rw [s_up_at]
theorem kx0.seam (h : kx0 (G, K) S g) (m : dg_sm shX [(19, 0), (19, 1), (19, 2), (31, 0), (31, 1), (31, 4), (31, 5)] [] S S1) (f0 : S1.1 g 0 = .int v) (f1 : S1.1 g 1 = .int v1) (f2 : S1.1 g 2 = .int v2) (h2 : v2.toInt = 8) : kx (s_up (s_up (s_up G 0 0 v.toInt) 0 1 v1.toInt) 0 2 0, K) S1 g := by
  have hg := h.1
  obtain ⟨-, ⟨a0, a1, a3, a4, a6, a8, a11⟩, -⟩ := id h
  refine ⟨h.fld m (by decide) (by decide) (by decide) (by rw [s_up_i (by decide), s_up_i (by decide), s_up_i (by decide)]) (by rw [s_up_i (by decide), s_up_i (by decide), s_up_i (by decide)]) (fun r j hr => by rw [s_up_r hr, s_up_r hr, s_up_r hr]) ?_ ?_ ?_ ?_ ?_, ?_⟩
  · rw [zI_at f0, s_up_i (by decide), s_up_i (by decide), s_up_at]
  · rw [zI_at f1, s_up_i (by decide), s_up_at]
  · rw [zI_sm m hg _ (by decide), s_up_i (by decide), s_up_i (by decide), s_up_i (by decide)]; exact a3
  · rw [zI_sm m hg _ (by decide), s_up_i (by decide), s_up_i (by decide), s_up_i (by decide)]; exact a4
  · rw [zI_sm m hg _ (by decide), s_up_i (by decide), s_up_i (by decide), s_up_i (by decide)]; exact a6
  · rw [zI_at f2, h2]
    show (8 : Int) = s_up (s_up (s_up G 0 0 v.toInt) 0 1 v1.toInt) 0 2 0 0 2 + 8
    rw [s_up_at]
    rfl
theorem kx.miner (h : kx (G, K) S g) (m : dg_sm shX [(19, 6), (31, 0), (31, 1), (31, 4), (31, 5)] [21] S S1) (f : S1.1 g 6 = .int v) (hv : v.toInt = G 0 5 + 1) : kx (s_up G 0 5 (G 0 5 + 1), K) S1 g := by
  obtain ⟨⟨hg, ⟨a0, a1, a3, a4, a6, a8, a11⟩, b1, b2, b3, b4⟩, a2⟩ := h
  have r1 := (m.2 (g + 1) _ (rX_1 g hg) (by decide)).1
  have r3 := (m.2 (g + 3) _ (rX_3 g hg) (by decide)).1
  have r4 := (m.2 (g + 4) _ (rX_4 g hg) (by decide)).1
  have r6 := (m.2 (g + 6) _ (rX_6 g hg) (by decide)).1
  have r7 := (m.2 (g + 7) _ (rX_7 g hg) (by decide)).1
  have r8 := (m.2 (g + 8) _ (rX_8 g hg) (by decide)).1
  have r9 := (m.2 (g + 9) _ (rX_9 g hg) (by decide)).1
  have r10 := (m.2 (g + 10) _ (rX_10 g hg) (by decide)).1
  have r11 := (m.2 (g + 11) _ (rX_11 g hg) (by decide)).1
  have u : ∀ j, j ≠ 5 → s_up G 0 5 (G 0 5 + 1) 0 j = G 0 j := fun j hj => s_up_i hj
  have ur : ∀ r j, r ≠ 0 → s_up G 0 5 (G 0 5 + 1) r j = G r j := fun r j hr => s_up_r hr
  refine ⟨⟨hg, ⟨?_, ?_, ?_, ?_, ?_, ?_, ?_⟩, fun c hc => ?_, fun k hk => ?_, fun k hk => ?_, fun w hw => (b4 w hw).keep r9 r10 r11 (z7_sm m (by decide))⟩, ?_⟩
  · rw [zI_sm m hg _ (by decide)]; exact a0.trans (u 0 (by decide)).symm
  · rw [zI_sm m hg _ (by decide)]; exact a1.trans (u 1 (by decide)).symm
  · rw [zI_sm m hg _ (by decide)]; exact a3.trans (u 3 (by decide)).symm
  · rw [zI_sm m hg _ (by decide)]; exact a4.trans (u 4 (by decide)).symm
  · rw [zI_at f, hv]
    show G 0 5 + 1 = s_up G 0 5 (G 0 5 + 1) 0 5
    exact s_up_at.symm
  · rw [zI_sm m hg _ (by decide)]; exact a8.trans (u 6 (by decide)).symm
  · rw [zI_sm m hg _ (by decide)]; exact a11.trans (u 7 (by decide)).symm
  · rw [r1]; exact (b1 c hc).trans (ur 1 c (by decide)).symm
  · have hk : (k : Int) < G 0 6 := by rw [← u 6 (by decide)]; exact hk
    rw [r3, r4]
    exact ⟨(b2 k hk).1.trans (ur 5 k (by decide)).symm, (b2 k hk).2.trans (congrArg (· + 8) (ur 6 k (by decide)).symm)⟩
  · have hk : (k : Int) < G 0 7 := by rw [← u 7 (by decide)]; exact hk
    rw [r6, r7, r8]
    exact ⟨(b3 k hk).1.trans (ur 2 k (by decide)).symm, (b3 k hk).2.1.trans (ur 3 k (by decide)).symm, (b3 k hk).2.2.trans (ur 4 k (by decide)).symm⟩
  · rw [zI_sm m hg _ (by decide)]
    exact a2.trans (congrArg (· + 8) (u 2 (by decide)).symm)
theorem kx.grade (h : kx (G, K) S g) (m : dg_sm shX [(31, 0), (31, 1), (31, 4), (31, 5)] [20] S S1) {i c : Nat} (hr : S1.2.1 (g + 1) = upd (S.2.1 (g + 1)) i v) (hi : i = c + 8) : kx (s_up G 1 c v.toInt, K) S1 g := by
  obtain ⟨⟨hg, ⟨a0, a1, a3, a4, a6, a8, a11⟩, b1, b2, b3, b4⟩, a2⟩ := h
  have r3 := (m.2 (g + 3) _ (rX_3 g hg) (by decide)).1
  have r4 := (m.2 (g + 4) _ (rX_4 g hg) (by decide)).1
  have r6 := (m.2 (g + 6) _ (rX_6 g hg) (by decide)).1
  have r7 := (m.2 (g + 7) _ (rX_7 g hg) (by decide)).1
  have r8 := (m.2 (g + 8) _ (rX_8 g hg) (by decide)).1
  have r9 := (m.2 (g + 9) _ (rX_9 g hg) (by decide)).1
  have r10 := (m.2 (g + 10) _ (rX_10 g hg) (by decide)).1
  have r11 := (m.2 (g + 11) _ (rX_11 g hg) (by decide)).1
  have u : ∀ r j, r ≠ 1 → s_up G 1 c v.toInt r j = G r j := fun r j hr => s_up_r hr
  have z : ∀ n, zI S1 g n = zI S g n := fun n => zI_sm m hg n (by simp)
  refine ⟨⟨hg, ⟨?_, ?_, ?_, ?_, ?_, ?_, ?_⟩, fun c' hc => ?_, fun k hk => ?_, fun k hk => ?_, fun w hw => (b4 w hw).keep r9 r10 r11 (z7_sm m (by decide))⟩, ?_⟩
  · rw [z]; exact a0.trans (u 0 0 (by decide)).symm
  · rw [z]; exact a1.trans (u 0 1 (by decide)).symm
  · rw [z]; exact a3.trans (u 0 3 (by decide)).symm
  · rw [z]; exact a4.trans (u 0 4 (by decide)).symm
  · rw [z]; exact a6.trans (u 0 5 (by decide)).symm
  · rw [z]; exact a8.trans (u 0 6 (by decide)).symm
  · rw [z]; exact a11.trans (u 0 7 (by decide)).symm
  · show _ = s_up G 1 c v.toInt 1 c'
    rw [hr]
    by_cases q : c' = c
    · rw [q, s_up_at]
      exact congrArg Int32.toInt (if_pos (by omega))
    · rw [s_up_i q]
      exact (congrArg Int32.toInt (if_neg (by omega))).trans (b1 c' hc)
  · have hk : (k : Int) < G 0 6 := by rw [← u 0 6 (by decide)]; exact hk
    rw [r3, r4]
    exact ⟨(b2 k hk).1.trans (u 5 k (by decide)).symm, (b2 k hk).2.trans (congrArg (· + 8) (u 6 k (by decide)).symm)⟩
  · have hk : (k : Int) < G 0 7 := by rw [← u 0 7 (by decide)]; exact hk
    rw [r6, r7, r8]
    exact ⟨(b3 k hk).1.trans (u 2 k (by decide)).symm, (b3 k hk).2.1.trans (u 3 k (by decide)).symm, (b3 k hk).2.2.trans (u 4 k (by decide)).symm⟩
  · rw [z]
    exact a2.trans (congrArg (· + 8) (u 0 2 (by decide)).symm)
/-- a row of a row: told at its place -/
theorem upd_at {f : Nat → Int32} {i j : Nat} {v : Int32} (h : j = i) : upd f i v j = v := by rw [h]; exact dk_upd_s
theorem kx.dig (h : kx (G, K) S g) (m : dg_sm shX [(19, 8), (31, 0), (31, 1), (31, 4), (31, 5)] [22, 23] S S1) (f : S1.1 g 8 = .int v) {p : Int32} (fp : S.1 g 8 = .int p) (h0 : 0 ≤ p.toInt) (hv : v.toInt = p.toInt + 1) (r3 : S1.2.1 (g + 3) = upd (S.2.1 (g + 3)) p.toNatClampNeg v1) (r4 : S1.2.1 (g + 4) = upd (S.2.1 (g + 4)) p.toNatClampNeg v2) {x y : Int} (hx : v1.toInt = x) (hy : v2.toInt = y + 8) : kx (s_up (s_up (s_up G 5 (G 0 6).toNat x) 6 (G 0 6).toNat y) 0 6 (G 0 6 + 1), K) S1 g := by
  obtain ⟨⟨hg, ⟨a0, a1, a3, a4, a6, a8, a11⟩, b1, b2, b3, b4⟩, a2⟩ := h
  have ep : p.toInt = G 0 6 := (zI_at fp).symm.trans a8
  have cp := dk_clN p
  have r1 := (m.2 (g + 1) _ (rX_1 g hg) (by decide)).1
  have r6 := (m.2 (g + 6) _ (rX_6 g hg) (by decide)).1
  have r7 := (m.2 (g + 7) _ (rX_7 g hg) (by decide)).1
  have r8 := (m.2 (g + 8) _ (rX_8 g hg) (by decide)).1
  have r9 := (m.2 (g + 9) _ (rX_9 g hg) (by decide)).1
  have r10 := (m.2 (g + 10) _ (rX_10 g hg) (by decide)).1
  have r11 := (m.2 (g + 11) _ (rX_11 g hg) (by decide)).1
  generalize hG : s_up (s_up (s_up G 5 (G 0 6).toNat x) 6 (G 0 6).toNat y) 0 6 (G 0 6 + 1) = G'
  have u : ∀ j, j ≠ 6 → G' 0 j = G 0 j := fun j hj => by rw [← hG, s_up_i hj, s_up_r (by decide), s_up_r (by decide)]
  have u6 : G' 0 6 = G 0 6 + 1 := by rw [← hG, s_up_at]
  have ur : ∀ r j, r ≠ 0 → r ≠ 5 → r ≠ 6 → G' r j = G r j := fun r j h0 h5 h6 => by rw [← hG, s_up_r h0, s_up_r h6, s_up_r h5]
  have u5 : ∀ j : Nat, G' 5 j = if j = (G 0 6).toNat then x else G 5 j := fun j => by
    rw [← hG, s_up_r (by decide), s_up_r (by decide)]
    by_cases q : j = (G 0 6).toNat
    · rw [if_pos q, q, s_up_at]
    · rw [if_neg q, s_up_i q]
  have u6' : ∀ j : Nat, G' 6 j = if j = (G 0 6).toNat then y else G 6 j := fun j => by
    rw [← hG, s_up_r (by decide)]
    by_cases q : j = (G 0 6).toNat
    · rw [if_pos q, q, s_up_at]
    · rw [if_neg q, s_up_i q, s_up_r (by decide)]
  refine ⟨⟨hg, ⟨?_, ?_, ?_, ?_, ?_, ?_, ?_⟩, fun c hc => ?_, fun k hk => ?_, fun k hk => ?_, fun w hw => (b4 w hw).keep r9 r10 r11 (z7_sm m (by decide))⟩, ?_⟩
  · rw [zI_sm m hg _ (by decide)]; exact a0.trans (u 0 (by decide)).symm
  · rw [zI_sm m hg _ (by decide)]; exact a1.trans (u 1 (by decide)).symm
  · rw [zI_sm m hg _ (by decide)]; exact a3.trans (u 3 (by decide)).symm
  · rw [zI_sm m hg _ (by decide)]; exact a4.trans (u 4 (by decide)).symm
  · rw [zI_sm m hg _ (by decide)]; exact a6.trans (u 5 (by decide)).symm
  · rw [zI_at f, hv, ep]
    exact u6.symm
  · rw [zI_sm m hg _ (by decide)]; exact a11.trans (u 7 (by decide)).symm
  · rw [r1]; exact (b1 c hc).trans (ur 1 c (by decide) (by decide) (by decide)).symm
  · have hk : (k : Int) < G 0 6 + 1 := by rw [← u6]; exact hk
    show (S1.2.1 (g + 3) k).toInt = G' 5 k ∧ (S1.2.1 (g + 4) k).toInt = G' 6 k + 8
    rw [r3, r4, u5, u6']
    by_cases q : k = (G 0 6).toNat
    · rw [if_pos q, if_pos q, upd_at (by omega), upd_at (by omega)]
      exact ⟨hx, hy⟩
    · rw [if_neg q, if_neg q, dk_upd_o (by omega), dk_upd_o (by omega)]
      exact b2 k (by show (k : Int) < G 0 6; omega)
  · have hk : (k : Int) < G 0 7 := by rw [← u 7 (by decide)]; exact hk
    rw [r6, r7, r8]
    exact ⟨(b3 k hk).1.trans (ur 2 k (by decide) (by decide) (by decide)).symm, (b3 k hk).2.1.trans (ur 3 k (by decide) (by decide) (by decide)).symm, (b3 k hk).2.2.trans (ur 4 k (by decide) (by decide) (by decide)).symm⟩
  · rw [zI_sm m hg _ (by decide)]
    exact a2.trans (congrArg (· + 8) (u 2 (by decide)).symm)
theorem kx.order (h : kx (G, K) S g) (m : dg_sm shX [(19, 11), (31, 0), (31, 1), (31, 4), (31, 5)] [24, 25, 26, 27] S S1) (f : S1.1 g 11 = .int v) {p : Int32} (fp : S.1 g 11 = .int p) (h0 : 0 ≤ p.toInt) (hv : v.toInt = p.toInt + 1) (r6 : S1.2.1 (g + 6) = upd (S.2.1 (g + 6)) p.toNatClampNeg v1) (r7 : S1.2.1 (g + 7) = upd (S.2.1 (g + 7)) p.toNatClampNeg v2) (r8 : S1.2.1 (g + 8) = upd (S.2.1 (g + 8)) p.toNatClampNeg v3) : kx (s_up (s_up (s_up (s_up G 2 (G 0 7).toNat v1.toInt) 3 (G 0 7).toNat v2.toInt) 4 (G 0 7).toNat v3.toInt) 0 7 (G 0 7 + 1), K) S1 g := by
  obtain ⟨⟨hg, ⟨a0, a1, a3, a4, a6, a8, a11⟩, b1, b2, b3, b4⟩, a2⟩ := h
  have ep : p.toInt = G 0 7 := (zI_at fp).symm.trans a11
  have cp := dk_clN p
  have r1 := (m.2 (g + 1) _ (rX_1 g hg) (by decide)).1
  have r3 := (m.2 (g + 3) _ (rX_3 g hg) (by decide)).1
  have r4 := (m.2 (g + 4) _ (rX_4 g hg) (by decide)).1
  have r9 := (m.2 (g + 9) _ (rX_9 g hg) (by decide)).1
  have r10 := (m.2 (g + 10) _ (rX_10 g hg) (by decide)).1
  have r11 := (m.2 (g + 11) _ (rX_11 g hg) (by decide)).1
  generalize hG : s_up (s_up (s_up (s_up G 2 (G 0 7).toNat v1.toInt) 3 (G 0 7).toNat v2.toInt) 4 (G 0 7).toNat v3.toInt) 0 7 (G 0 7 + 1) = G'
  have u : ∀ j, j ≠ 7 → G' 0 j = G 0 j := fun j hj => by rw [← hG, s_up_i hj, s_up_r (by decide), s_up_r (by decide), s_up_r (by decide)]
  have u7 : G' 0 7 = G 0 7 + 1 := by rw [← hG, s_up_at]
  have ur : ∀ r j, r ≠ 0 → r ≠ 2 → r ≠ 3 → r ≠ 4 → G' r j = G r j := fun r j h0 h2 h3 h4 => by rw [← hG, s_up_r h0, s_up_r h4, s_up_r h3, s_up_r h2]
  have u2 : ∀ j : Nat, G' 2 j = if j = (G 0 7).toNat then v1.toInt else G 2 j := fun j => by
    rw [← hG, s_up_r (by decide), s_up_r (by decide), s_up_r (by decide)]
    by_cases q : j = (G 0 7).toNat
    · rw [if_pos q, q, s_up_at]
    · rw [if_neg q, s_up_i q]
  have u3 : ∀ j : Nat, G' 3 j = if j = (G 0 7).toNat then v2.toInt else G 3 j := fun j => by
    rw [← hG, s_up_r (by decide), s_up_r (by decide)]
    by_cases q : j = (G 0 7).toNat
    · rw [if_pos q, q, s_up_at]
    · rw [if_neg q, s_up_i q, s_up_r (by decide)]
  have u4 : ∀ j : Nat, G' 4 j = if j = (G 0 7).toNat then v3.toInt else G 4 j := fun j => by
    rw [← hG, s_up_r (by decide)]
    by_cases q : j = (G 0 7).toNat
    · rw [if_pos q, q, s_up_at]
    · rw [if_neg q, s_up_i q, s_up_r (by decide), s_up_r (by decide)]
  refine ⟨⟨hg, ⟨?_, ?_, ?_, ?_, ?_, ?_, ?_⟩, fun c hc => ?_, fun k hk => ?_, fun k hk => ?_, fun w hw => (b4 w hw).keep r9 r10 r11 (z7_sm m (by decide))⟩, ?_⟩
  · rw [zI_sm m hg _ (by decide)]; exact a0.trans (u 0 (by decide)).symm
  · rw [zI_sm m hg _ (by decide)]; exact a1.trans (u 1 (by decide)).symm
  · rw [zI_sm m hg _ (by decide)]; exact a3.trans (u 3 (by decide)).symm
  · rw [zI_sm m hg _ (by decide)]; exact a4.trans (u 4 (by decide)).symm
  · rw [zI_sm m hg _ (by decide)]; exact a6.trans (u 5 (by decide)).symm
  · rw [zI_sm m hg _ (by decide)]; exact a8.trans (u 6 (by decide)).symm
  · rw [zI_at f, hv, ep]
    exact u7.symm
  · rw [r1]; exact (b1 c hc).trans (ur 1 c (by decide) (by decide) (by decide) (by decide)).symm
  · have hk : (k : Int) < G 0 6 := by rw [← u 6 (by decide)]; exact hk
    rw [r3, r4]
    exact ⟨(b2 k hk).1.trans (ur 5 k (by decide) (by decide) (by decide) (by decide)).symm, (b2 k hk).2.trans (congrArg (· + 8) (ur 6 k (by decide) (by decide) (by decide) (by decide)).symm)⟩
  · have hk : (k : Int) < G 0 7 + 1 := by rw [← u7]; exact hk
    show (S1.2.1 (g + 6) k).toInt = G' 2 k ∧ (S1.2.1 (g + 7) k).toInt = G' 3 k ∧ (S1.2.1 (g + 8) k).toInt = G' 4 k
    rw [r6, r7, r8, u2, u3, u4]
    by_cases q : k = (G 0 7).toNat
    · rw [if_pos q, if_pos q, if_pos q, upd_at (by omega), upd_at (by omega), upd_at (by omega)]
      exact ⟨rfl, rfl, rfl⟩
    · rw [if_neg q, if_neg q, if_neg q, dk_upd_o (by omega), dk_upd_o (by omega), dk_upd_o (by omega)]
      exact b3 k (by show (k : Int) < G 0 7; omega)
  · rw [zI_sm m hg _ (by decide)]
    exact a2.trans (congrArg (· + 8) (u 2 (by decide)).symm)
theorem kx.rule (h : kx (G, K) S g) (m : dg_sm shX [(31, 0), (31, 1), (31, 4), (31, 6), (31, 7)] [28, 29, 30] S S1) (hn : n < 3) (fs : S.1 209 7 = .int sc) (q : q_as g S S1 sc C) (f9 : S1.1 209 7 = .int c9) (r10 : S1.2.1 (g + 10) = upd (S.2.1 (g + 10)) n sc) (r11 : S1.2.1 (g + 11) = upd (S.2.1 (g + 11)) n c9) {x : Int} (hx : x = n) : kx (G, fun j => if (j : Int) = x then C else K j) S1 g := by
  obtain ⟨⟨hg, ⟨a0, a1, a3, a4, a6, a8, a11⟩, b1, b2, b3, b4⟩, a2⟩ := h
  obtain ⟨b, fb, nb, s0, k1, w1⟩ := q
  cases fb.symm.trans f9
  have r1 := (m.2 (g + 1) _ (rX_1 g hg) (by decide)).1
  have r3 := (m.2 (g + 3) _ (rX_3 g hg) (by decide)).1
  have r4 := (m.2 (g + 4) _ (rX_4 g hg) (by decide)).1
  have r6 := (m.2 (g + 6) _ (rX_6 g hg) (by decide)).1
  have r7 := (m.2 (g + 7) _ (rX_7 g hg) (by decide)).1
  have r8 := (m.2 (g + 8) _ (rX_8 g hg) (by decide)).1
  have z : ∀ j, zI S1 g j = zI S g j := fun j => zI_sm m hg j (by simp)
  have e0 := zI_at fs
  have e1 := zI_at f9
  have cs := dk_clN sc
  refine ⟨⟨hg, ⟨by rw [z]; exact a0, by rw [z]; exact a1, by rw [z]; exact a3, by rw [z]; exact a4, by rw [z]; exact a6, by rw [z]; exact a8, by rw [z]; exact a11⟩, fun c hc => by rw [r1]; exact b1 c hc, fun k hk => by rw [r3, r4]; exact b2 k hk, fun k hk => by rw [r6, r7, r8]; exact b3 k hk, fun w hw => ?_⟩, by rw [z]; exact a2⟩
  show kc S1 g w (if (w : Int) = x then C else K w)
  by_cases e : w = n
  · rw [if_pos (by omega), e]
    refine ⟨sc.toInt, s0, by omega, by rw [r10, upd_at rfl], by rw [r11, upd_at rfl]; exact nb, fun i hi => ?_⟩
    rw [show sc.toInt.toNat + i = sc.toNatClampNeg + i by omega]
    exact w1 i hi
  · rw [if_neg (by omega)]
    obtain ⟨fr, h0, h1, h2, h3, h4⟩ := b4 w hw
    have h1 : fr + ((K w).length : Int) ≤ (zI S 209 7).toInt := h1
    refine ⟨fr, h0, by omega, by rw [r10, dk_upd_o e]; exact h2, by rw [r11, dk_upd_o e]; exact h3, fun i hi => ?_⟩
    rw [k1 _ (by omega)]
    exact h4 i hi
end KX
/-! along the text: so far -/
def KAT (kd vl : Nat → Int32) (i : Nat) (σ : y_S) (k : Nat) (S : dg_S) (g : Nat) : Prop := ∃ d : k_D, z_at kd vl (k_st kd vl) k_0 i σ d k ∧ (i = 0 → kx0 d S g) ∧ (i ≠ 0 → kx d S g)
/-- what a STATEMENT that is taken does -/
def KST (kd vl : Nat → Int32) (i : Nat) (σ : y_S) (k : Nat) (S S1 : dg_S) (g : Nat) : Prop := ∀ d : k_D, (i = 0 → kx0 d S g) → (i ≠ 0 → kx d S g) → kx (k_st kd vl σ k d) S1 g
section KAT
variable {kd vl : Nat → Int32} {S S1 S2 : dg_S} {g i i' k k' yk : Nat} {σ σ' : y_S} {WF : List (Nat × Nat)} {WA : List Nat}
theorem KAT.keep (h : KAT kd vl i σ k S g) (m : dg_sm shX WF WA S S1) (hF : ∀ n, (19, n) ∉ WF) (h7 : (31, 7) ∉ WF) (hA : ∀ r, 20 ≤ r → r ≤ 30 → r ∉ WA) : KAT kd vl i σ k S1 g := by
  obtain ⟨d, a, b, c⟩ := h
  exact ⟨d, a, fun q => (b q).keep m hF h7 hA, fun q => (c q).keep m hF h7 hA⟩
theorem KAT.next (h : KAT kd vl i σ k S g) (hi : i ≠ 80) (hz : ¬ (i ≠ 0 ∧ (kd k).toInt = 0)) (h1 : y_one kd vl i σ k = some (σ', yk)) (h2 : g_tk kd vl 59 yk = some k') (hi' : i' = i + 1) (q : KST kd vl i σ k S S1 g) : KAT kd vl i' σ' k' S1 g := by
  obtain ⟨d, a, b, c⟩ := h
  refine ⟨k_st kd vl σ k d, a.next hi hz h1 h2 hi', fun z => absurd z (by omega), fun _ => q d b c⟩
theorem KAT.done (h : KAT kd vl i σ k S g) (hi : i ≠ 0) (hz : (kd k).toInt = 0) : kx (z_all kd vl (k_st kd vl) k_0) S g := by
  obtain ⟨d, a, b, c⟩ := h
  rw [a.done hi hz]
  exact c hi
end KAT
section KXS
variable {kd vl : Nat → Int32} {S : dg_S} {g i k : Nat} {cx ry mi pl od : Int32} {fm fo fr fe : Nat → Int32}
/-- behind clear() -/
theorem kx0.start (hg : rX g) (f0 : (zI S g 0).toInt = 0) (f1 : (zI S g 1).toInt = 0) (f3 : (zI S g 3).toInt = 3) (f4 : (zI S g 4).toInt = 0) (f6 : (zI S g 6).toInt = 0) (f8 : (zI S g 8).toInt = 0) (f11 : (zI S g 11).toInt = 0) (h1 : ∀ j : Nat, j < 72 → (S.2.1 (g + 1) j).toInt = 5) (h10 : ∀ j : Nat, j < 3 → (S.2.1 (g + 10) j).toInt = 0) (h11 : ∀ j : Nat, j < 3 → (S.2.1 (g + 11) j).toInt = 0) (h7 : 0 ≤ (zI S 209 7).toInt) : kx0 k_0 S g :=
  ⟨hg, ⟨f0, f1, f3, f4, f6, f8, f11⟩, fun c hc => h1 (c + 8) (by omega), fun k hk => absurd (show (k : Int) < 0 from hk) (by omega), fun k hk => absurd (show (k : Int) < 0 from hk) (by omega), fun w hw => ⟨0, by decide, by show (0 : Int) + ((0 : Nat) : Int) ≤ _; omega, h10 w hw, by rw [h11 w hw]; rfl, fun i hi => absurd hi (Nat.not_lt_zero i)⟩⟩
theorem KAT.start (hm : mi.toInt = 0) (hp : pl.toInt = 0) (ho : od.toInt = 0) (hc : cx.toInt = 0) (hr : ry.toInt = 0) (hf : ∀ j : Nat, j < 3 → (fr j).toInt = 0) (he : ∀ j : Nat, j < 3 → (fe j).toInt = 0) (hi : i = 0) (hk : k = 0) (h : kx0 k_0 S g) : KAT kd vl i (y_gx cx ry fm mi pl fo od fr fe) k S g := by
  have e1 := dk_clN mi
  have e2 := dk_clN pl
  have e3 := dk_clN od
  have e : y_gx cx ry fm mi pl fo od fr fe = y_0 := by
    unfold y_gx y_0
    rw [hc, hr, show mi.toNatClampNeg = 0 by omega, show pl.toNatClampNeg = 0 by omega, show od.toNatClampNeg = 0 by omega, hf 0 (by decide), hf 1 (by decide), hf 2 (by decide), he 0 (by decide), he 1 (by decide), he 2 (by decide)]
    rfl
  rw [e, hi, hk]
  exact ⟨k_0, z_at.zr, fun _ => h, fun z => absurd rfl z⟩
end KXS
end
section
/-! 08.gn.lean.txt -/
theorem dX2_hasRule_0 : decode cX2_hasRule 0 = .ok (.aload_n 0, 1) := dk_o42 (by decide +kernel)
theorem dX2_hasRule_1 : decode cX2_hasRule 1 = .ok (.getfield 46, 3) := dk_o180 (by decide +kernel)
theorem dX2_hasRule_4 : decode cX2_hasRule 4 = .ok (.iload_n 1, 1) := dk_o27 (by decide +kernel)
theorem dX2_hasRule_5 : decode cX2_hasRule 5 = .ok (.iaload, 1) := dk_o46 (by decide +kernel)
theorem dX2_hasRule_6 : decode cX2_hasRule 6 = .ok (.aload_n 0, 1) := dk_o42 (by decide +kernel)
theorem dX2_hasRule_7 : decode cX2_hasRule 7 = .ok (.getfield 43, 3) := dk_o180 (by decide +kernel)
theorem dX2_hasRule_10 : decode cX2_hasRule 10 = .ok (.iload_n 1, 1) := dk_o27 (by decide +kernel)
theorem dX2_hasRule_11 : decode cX2_hasRule 11 = .ok (.iaload, 1) := dk_o46 (by decide +kernel)
theorem dX2_hasRule_12 : decode cX2_hasRule 12 = .ok (.if_icmp .le 7, 3) := dk_o164 (by decide +kernel)
theorem dX2_hasRule_15 : decode cX2_hasRule 15 = .ok (.iconst 1, 1) := dk_o4 (by decide +kernel)
theorem dX2_hasRule_16 : decode cX2_hasRule 16 = .ok (.goto 4, 3) := dk_o167 (by decide +kernel)
theorem dX2_hasRule_19 : decode cX2_hasRule 19 = .ok (.iconst 0, 1) := dk_o3 (by decide +kernel)
theorem dX2_hasRule_20 : decode cX2_hasRule 20 = .ok (.ireturn, 1) := dk_o172 (by decide +kernel)
theorem dX2_hasName_0 : decode cX2_hasName 0 = .ok (.iconst 0, 1) := dk_o3 (by decide +kernel)
theorem dX2_hasName_1 : decode cX2_hasName 1 = .ok (.istore_n 2, 1) := dk_o61 (by decide +kernel)
theorem dX2_hasName_2 : decode cX2_hasName 2 = .ok (.iload_n 2, 1) := dk_o28 (by decide +kernel)
theorem dX2_hasName_3 : decode cX2_hasName 3 = .ok (.aload_n 0, 1) := dk_o42 (by decide +kernel)
theorem dX2_hasName_4 : decode cX2_hasName 4 = .ok (.getfield 73, 3) := dk_o180 (by decide +kernel)
theorem dX2_hasName_7 : decode cX2_hasName 7 = .ok (.if_icmp .ge 21, 3) := dk_o162 (by decide +kernel)
theorem dX2_hasName_10 : decode cX2_hasName 10 = .ok (.aload_n 0, 1) := dk_o42 (by decide +kernel)
theorem dX2_hasName_11 : decode cX2_hasName 11 = .ok (.getfield 28, 3) := dk_o180 (by decide +kernel)
theorem dX2_hasName_14 : decode cX2_hasName 14 = .ok (.iload_n 2, 1) := dk_o28 (by decide +kernel)
theorem dX2_hasName_15 : decode cX2_hasName 15 = .ok (.iaload, 1) := dk_o46 (by decide +kernel)
theorem dX2_hasName_16 : decode cX2_hasName 16 = .ok (.iload_n 1, 1) := dk_o27 (by decide +kernel)
theorem dX2_hasName_17 : decode cX2_hasName 17 = .ok (.if_icmp .ne 5, 3) := dk_o160 (by decide +kernel)
theorem dX2_hasName_20 : decode cX2_hasName 20 = .ok (.iconst 1, 1) := dk_o4 (by decide +kernel)
theorem dX2_hasName_21 : decode cX2_hasName 21 = .ok (.ireturn, 1) := dk_o172 (by decide +kernel)
theorem dX2_hasName_22 : decode cX2_hasName 22 = .ok (.iinc 2 1, 3) := dk_o132 (by decide +kernel)
theorem dX2_hasName_25 : decode cX2_hasName 25 = .ok (.goto (-23), 3) := dk_o167 (by decide +kernel)
theorem dX2_hasName_28 : decode cX2_hasName 28 = .ok (.aload_n 0, 1) := dk_o42 (by decide +kernel)
theorem dX2_hasName_29 : decode cX2_hasName 29 = .ok (.iload_n 1, 1) := dk_o27 (by decide +kernel)
theorem dX2_hasName_30 : decode cX2_hasName 30 = .ok (.invokevirtual 76, 3) := dk_o182 (by decide +kernel)
theorem dX2_hasName_33 : decode cX2_hasName 33 = .ok (.iconst (-1), 1) := dk_o2 (by decide +kernel)
theorem dX2_hasName_34 : decode cX2_hasName 34 = .ok (.if_icmp .eq 7, 3) := dk_o159 (by decide +kernel)
theorem dX2_hasName_37 : decode cX2_hasName 37 = .ok (.iconst 1, 1) := dk_o4 (by decide +kernel)
theorem dX2_hasName_38 : decode cX2_hasName 38 = .ok (.goto 4, 3) := dk_o167 (by decide +kernel)
theorem dX2_hasName_41 : decode cX2_hasName 41 = .ok (.iconst 0, 1) := dk_o3 (by decide +kernel)
theorem dX2_hasName_42 : decode cX2_hasName 42 = .ok (.ireturn, 1) := dk_o172 (by decide +kernel)
theorem dX2_minerNamed_0 : decode cX2_minerNamed 0 = .ok (.iconst 0, 1) := dk_o3 (by decide +kernel)
theorem dX2_minerNamed_1 : decode cX2_minerNamed 1 = .ok (.istore_n 2, 1) := dk_o61 (by decide +kernel)
theorem dX2_minerNamed_2 : decode cX2_minerNamed 2 = .ok (.iload_n 2, 1) := dk_o28 (by decide +kernel)
theorem dX2_minerNamed_3 : decode cX2_minerNamed 3 = .ok (.aload_n 0, 1) := dk_o42 (by decide +kernel)
theorem dX2_minerNamed_4 : decode cX2_minerNamed 4 = .ok (.getfield 67, 3) := dk_o180 (by decide +kernel)
theorem dX2_minerNamed_7 : decode cX2_minerNamed 7 = .ok (.if_icmp .ge 21, 3) := dk_o162 (by decide +kernel)
theorem dX2_minerNamed_10 : decode cX2_minerNamed 10 = .ok (.aload_n 0, 1) := dk_o42 (by decide +kernel)
theorem dX2_minerNamed_11 : decode cX2_minerNamed 11 = .ok (.getfield 19, 3) := dk_o180 (by decide +kernel)
theorem dX2_minerNamed_14 : decode cX2_minerNamed 14 = .ok (.iload_n 2, 1) := dk_o28 (by decide +kernel)
theorem dX2_minerNamed_15 : decode cX2_minerNamed 15 = .ok (.iaload, 1) := dk_o46 (by decide +kernel)
theorem dX2_minerNamed_16 : decode cX2_minerNamed 16 = .ok (.iload_n 1, 1) := dk_o27 (by decide +kernel)
theorem dX2_minerNamed_17 : decode cX2_minerNamed 17 = .ok (.if_icmp .ne 5, 3) := dk_o160 (by decide +kernel)
theorem dX2_minerNamed_20 : decode cX2_minerNamed 20 = .ok (.iload_n 2, 1) := dk_o28 (by decide +kernel)
theorem dX2_minerNamed_21 : decode cX2_minerNamed 21 = .ok (.ireturn, 1) := dk_o172 (by decide +kernel)
theorem dX2_minerNamed_22 : decode cX2_minerNamed 22 = .ok (.iinc 2 1, 3) := dk_o132 (by decide +kernel)
theorem dX2_minerNamed_25 : decode cX2_minerNamed 25 = .ok (.goto (-23), 3) := dk_o167 (by decide +kernel)
theorem dX2_minerNamed_28 : decode cX2_minerNamed 28 = .ok (.iconst (-1), 1) := dk_o2 (by decide +kernel)
theorem dX2_minerNamed_29 : decode cX2_minerNamed 29 = .ok (.ireturn, 1) := dk_o172 (by decide +kernel)
theorem dX2_placeOf_0 : decode cX2_placeOf 0 = .ok (.iload_n 1, 1) := dk_o27 (by decide +kernel)
theorem dX2_placeOf_1 : decode cX2_placeOf 1 = .ok (.ifCond .lt 23, 3) := dk_o155 (by decide +kernel)
theorem dX2_placeOf_4 : decode cX2_placeOf 4 = .ok (.iload_n 1, 1) := dk_o27 (by decide +kernel)
theorem dX2_placeOf_5 : decode cX2_placeOf 5 = .ok (.aload_n 0, 1) := dk_o42 (by decide +kernel)
theorem dX2_placeOf_6 : decode cX2_placeOf 6 = .ok (.getfield 49, 3) := dk_o180 (by decide +kernel)
theorem dX2_placeOf_9 : decode cX2_placeOf 9 = .ok (.if_icmp .ge 15, 3) := dk_o162 (by decide +kernel)
theorem dX2_placeOf_12 : decode cX2_placeOf 12 = .ok (.iload_n 2, 1) := dk_o28 (by decide +kernel)
theorem dX2_placeOf_13 : decode cX2_placeOf 13 = .ok (.ifCond .lt 11, 3) := dk_o155 (by decide +kernel)
theorem dX2_placeOf_16 : decode cX2_placeOf 16 = .ok (.iload_n 2, 1) := dk_o28 (by decide +kernel)
theorem dX2_placeOf_17 : decode cX2_placeOf 17 = .ok (.aload_n 0, 1) := dk_o42 (by decide +kernel)
theorem dX2_placeOf_18 : decode cX2_placeOf 18 = .ok (.getfield 52, 3) := dk_o180 (by decide +kernel)
theorem dX2_placeOf_21 : decode cX2_placeOf 21 = .ok (.if_icmp .lt 5, 3) := dk_o161 (by decide +kernel)
theorem dX2_placeOf_24 : decode cX2_placeOf 24 = .ok (.iconst (-1), 1) := dk_o2 (by decide +kernel)
theorem dX2_placeOf_25 : decode cX2_placeOf 25 = .ok (.ireturn, 1) := dk_o172 (by decide +kernel)
theorem dX2_placeOf_26 : decode cX2_placeOf 26 = .ok (.bipush 8, 2) := dk_o16 (by decide +kernel)
theorem dX2_placeOf_28 : decode cX2_placeOf 28 = .ok (.iload_n 2, 1) := dk_o28 (by decide +kernel)
theorem dX2_placeOf_29 : decode cX2_placeOf 29 = .ok (.imul, 1) := dk_o104 (by decide +kernel)
theorem dX2_placeOf_30 : decode cX2_placeOf 30 = .ok (.iload_n 1, 1) := dk_o27 (by decide +kernel)
theorem dX2_placeOf_31 : decode cX2_placeOf 31 = .ok (.iadd, 1) := dk_o96 (by decide +kernel)
theorem dX2_placeOf_32 : decode cX2_placeOf 32 = .ok (.bipush 8, 2) := dk_o16 (by decide +kernel)
theorem dX2_placeOf_34 : decode cX2_placeOf 34 = .ok (.iadd, 1) := dk_o96 (by decide +kernel)
theorem dX2_placeOf_35 : decode cX2_placeOf 35 = .ok (.ireturn, 1) := dk_o172 (by decide +kernel)
theorem wB_0 : Cond.fieldLink RX2 49 "DarkMine$Ground" "columns" "I" ∈ dgB := List.mem_filter.mpr ⟨tbl_1 _ (List.mem_of_getElem? (i := 175) (by decide +kernel)), by decide +kernel⟩
theorem wB_1 : Cond.fieldLink RX2 52 "DarkMine$Ground" "rows" "I" ∈ dgB := List.mem_filter.mpr ⟨tbl_1 _ (List.mem_of_getElem? (i := 181) (by decide +kernel)), by decide +kernel⟩
theorem wB_2 : Cond.fieldLink RX2 67 "DarkMine$Ground" "miners" "I" ∈ dgB := List.mem_filter.mpr ⟨tbl_1 _ (List.mem_of_getElem? (i := 205) (by decide +kernel)), by decide +kernel⟩
theorem wB_3 : Cond.fieldLink RX2 19 "DarkMine$Ground" "minerNames" "[I" ∈ dgB := List.mem_filter.mpr ⟨tbl_1 _ (List.mem_of_getElem? (i := 209) (by decide +kernel)), by decide +kernel⟩
theorem wB_4 : Cond.fieldLink RX2 73 "DarkMine$Ground" "orders" "I" ∈ dgB := List.mem_filter.mpr ⟨tbl_1 _ (List.mem_of_getElem? (i := 224) (by decide +kernel)), by decide +kernel⟩
theorem wB_5 : Cond.code yX2_minerNamed cX2_minerNamed 3 (some .int) ∈ dgB := List.mem_filter.mpr ⟨tbl_4 _ (List.mem_of_getElem? (i := 21) rfl), rfl⟩
theorem wB_6 : Cond.methodLink RX2 76 yX2_minerNamed ∈ dgB := List.mem_filter.mpr ⟨tbl_4 _ (List.mem_of_getElem? (i := 18) (by decide +kernel)), by decide +kernel⟩
theorem wB_7 : Cond.instanceMethod yX2_minerNamed ∈ dgB := List.mem_filter.mpr ⟨tbl_4 _ (List.mem_of_getElem? (i := 19) (by decide +kernel)), by decide +kernel⟩
theorem wB_8 : Cond.selects RX2 yX2_minerNamed yX2_minerNamed ∈ dgB := List.mem_filter.mpr ⟨tbl_4 _ (List.mem_of_getElem? (i := 20) (by decide +kernel)), by decide +kernel⟩
theorem wB_9 : Cond.initialized RX2 ∈ dgB := List.mem_filter.mpr ⟨tbl_1 _ (List.mem_of_getElem? (i := 6) (by decide +kernel)), by decide +kernel⟩
theorem wB_10 : Cond.fieldLink RX2 28 "DarkMine$Ground" "orderNames" "[I" ∈ dgB := List.mem_filter.mpr ⟨tbl_1 _ (List.mem_of_getElem? (i := 228) (by decide +kernel)), by decide +kernel⟩
theorem wB_11 : Cond.fieldLink RX2 46 "DarkMine$Ground" "ruleEnd" "[I" ∈ dgB := List.mem_filter.mpr ⟨tbl_2 _ (List.mem_of_getElem? (i := 6) (by decide +kernel)), by decide +kernel⟩
theorem wB_12 : Cond.fieldLink RX2 43 "DarkMine$Ground" "ruleFrom" "[I" ∈ dgB := List.mem_filter.mpr ⟨tbl_2 _ (List.mem_of_getElem? (i := 3) (by decide +kernel)), by decide +kernel⟩
set_option maxHeartbeats 8000000 in
set_option maxRecDepth 100000 in
theorem c_g_placeOfF (l : Launch) (g : Nat → ClassId) (D : va_G) (o : Nat) (S : dg_S) (gr : Nat) (hk_gr : rX gr) (a1 : Int32) (a2 : Int32) (cx : Int32) (f_cx : S.1 gr 0 = .int cx) (b_cx : 0 ≤ (cx).toInt ∧ (cx).toInt ≤ 7) (ry : Int32) (f_ry : S.1 gr 1 = .int ry) (b_ry : 0 ≤ (ry).toInt ∧ (ry).toInt ≤ 7) (I : CX o S) (sz : Nat) : Met l yX2_placeOf (bw yX2_placeOf cX2_placeOf 3 (some .int)) ({ frames := 1, cells := 0, slots := 0, locals := 32 } : Room) (dk_Pc g D (dg_w g shX o rfX S) sz [.ref (o + gr), .int a1, .int a2]) (va_Qi (fun (r : Int32) S' => S' = S ∧ (((-1) ≤ (r).toInt ∧ (r).toInt ≤ 62) ∧ ((r).toInt ≤ (-1) ∨ 8 ≤ (r).toInt)) ∧ ((r).toInt ≠ -1 ↔ (0 ≤ (a1).toInt ∧ (a1).toInt < (cx).toInt ∧ 0 ≤ (a2).toInt ∧ (a2).toInt < (ry).toInt)) ∧ ((r).toInt ≠ -1 → (r).toInt = 8 * (a2).toInt + (a1).toInt + 8) ∧ True) (dg_B g D shX o rfX) (dg_A o shX.length sz)) 0 0 (dg_A o shX.length sz) := by
  refine dg_met (cc := cX2_placeOf) (maxL := 3) (ret := (some .int)) (dk_dq rfl) rfl (Nat.le_of_ble_eq_true rfl) ?_
  intro p e s m args below meth c A hAe harg hx hb hr hml hts hown hlocks hin hP K hS hA1 hA ST hsz ls hl
  rw [← hAe]
  have F : CallFix p m c cX2_placeOf 3 s args (bw yX2_placeOf cX2_placeOf 3 (some .int)) RX2 := ⟨hx, hb, hml, hown, hts⟩
  have hl : lv_has ls 3 [(0, .ref (o + gr)), (1, .int a1), (2, .int a2)] := hl
  have M_0 : dg_sm shX [] [] S S := dg_sm.rf
  refine lv_iload_n hx hb dX2_placeOf_0 rfl (lv_at hl 1 rfl) ?_
  refine lv_if_lt (tgt := 24) hx hb dX2_placeOf_1 (dk_dq rfl) (fun c_1 => ?_) (fun c_1 => ?_)
  · have jc_1 := dk_ltc (k := 0) (by decide +kernel) c_1
    refine lv_iconst (v := (-1)) hx hb dX2_placeOf_24 (by decide +kernel) ?_
    have hz_2 : (-1 : Int32).toInt = (-1) := by decide +kernel
    have hz_3 : (-1 : Int32).toInt = (-1) := by decide +kernel
    have hz_4 : (-1 : Int32).toInt = (-1) := by decide +kernel
    refine W.widen (k := 0) (n := 0) (Nat.le_of_ble_eq_true rfl) (Nat.le_of_ble_eq_true rfl) ?_
    exact dg_iret hx hb hr hlocks rfl hP hS ⟨rfl, (by decide +kernel), (by omega), (by omega), trivial⟩ dX2_placeOf_25
  · as_aux_lemma =>
      have jc_1 := dk_nltc (k := 0) (by decide +kernel) c_1
      refine lv_iload_n hx hb dX2_placeOf_4 rfl (lv_at hl 1 rfl) ?_
      refine lv_aload_n hx hb dX2_placeOf_5 rfl (lv_at hl 0 rfl) ?_
      refine dg_get (C := RX2) (T := TX2) (N := 19) hx hb hts (fun w h => bw_mem (wU_X2 w h)) hown K hP (rX_0 gr hk_gr) rfl 0 (dk_dq rfl) (hts _ (bw_mem wB_0)) (fun _ h9 => h9) (v := .int cx) f_cx dX2_placeOf_6 ?_
      refine lv_icmp_ge (tgt := 24) hx hb dX2_placeOf_9 (dk_dq rfl) (fun c_5 => ?_) (fun c_5 => ?_)
      · have hf_5 := dk_full a1
        have jc_5 := dk_gec (k := (cx).toInt) rfl c_5
        refine lv_iconst (v := (-1)) hx hb dX2_placeOf_24 (by decide +kernel) ?_
        have hz_7 : (-1 : Int32).toInt = (-1) := by decide +kernel
        have hz_8 : (-1 : Int32).toInt = (-1) := by decide +kernel
        have hz_9 : (-1 : Int32).toInt = (-1) := by decide +kernel
        refine W.widen (k := 0) (n := 0) (Nat.le_of_ble_eq_true rfl) (Nat.le_of_ble_eq_true rfl) ?_
        exact dg_iret hx hb hr hlocks rfl hP hS ⟨rfl, (by decide +kernel), (by omega), (by omega), trivial⟩ dX2_placeOf_25
      · as_aux_lemma =>
          have hf_9 := dk_full a1
          have jc_5 := dk_ngec (k := (cx).toInt) rfl c_5
          refine lv_iload_n hx hb dX2_placeOf_12 rfl (lv_at hl 2 rfl) ?_
          refine lv_if_lt (tgt := 24) hx hb dX2_placeOf_13 (dk_dq rfl) (fun c_11 => ?_) (fun c_11 => ?_)
          · have jc_11 := dk_ltc (k := 0) (by decide +kernel) c_11
            refine lv_iconst (v := (-1)) hx hb dX2_placeOf_24 (by decide +kernel) ?_
            have hz_12 : (-1 : Int32).toInt = (-1) := by decide +kernel
            have hz_13 : (-1 : Int32).toInt = (-1) := by decide +kernel
            have hz_14 : (-1 : Int32).toInt = (-1) := by decide +kernel
            refine W.widen (k := 0) (n := 0) (Nat.le_of_ble_eq_true rfl) (Nat.le_of_ble_eq_true rfl) ?_
            exact dg_iret hx hb hr hlocks rfl hP hS ⟨rfl, (by decide +kernel), (by omega), (by omega), trivial⟩ dX2_placeOf_25
          · as_aux_lemma =>
              have jc_11 := dk_nltc (k := 0) (by decide +kernel) c_11
              refine lv_iload_n hx hb dX2_placeOf_16 rfl (lv_at hl 2 rfl) ?_
              refine lv_aload_n hx hb dX2_placeOf_17 rfl (lv_at hl 0 rfl) ?_
              refine dg_get (C := RX2) (T := TX2) (N := 19) hx hb hts (fun w h => bw_mem (wU_X2 w h)) hown K hP (rX_0 gr hk_gr) rfl 1 (dk_dq rfl) (hts _ (bw_mem wB_1)) (fun _ h9 => h9) (v := .int ry) f_ry dX2_placeOf_18 ?_
              refine lv_icmp_lt (tgt := 26) hx hb dX2_placeOf_21 (dk_dq rfl) (fun c_15 => ?_) (fun c_15 => ?_)
              · as_aux_lemma =>
                  have hf_15 := dk_full a2
                  have jc_15 := dk_ltc (k := (ry).toInt) rfl c_15
                  refine lv_bipush (v := 8) hx hb dX2_placeOf_26 (by decide +kernel) ?_
                  refine lv_iload_n hx hb dX2_placeOf_28 rfl (lv_at hl 2 rfl) ?_
                  refine lv_imul hx hb dX2_placeOf_29 ?_
                  refine lv_topi (fun x_17 ex_17 => ?_)
                  have jx_17 : (x_17).toInt = 8 * (a2).toInt := by rw [ex_17]; exact dk_mulT2 (by decide +kernel) rfl (by omega)
                  refine lv_iload_n hx hb dX2_placeOf_30 rfl (lv_at hl 1 rfl) ?_
                  refine lv_iadd hx hb dX2_placeOf_31 ?_
                  refine lv_topi (fun x_18 ex_18 => ?_)
                  have jx_18 : (x_18).toInt = (x_17).toInt + (a1).toInt := by rw [ex_18]; exact dk_addT2 rfl rfl (by omega)
                  refine lv_bipush (v := 8) hx hb dX2_placeOf_32 (by decide +kernel) ?_
                  refine lv_iadd hx hb dX2_placeOf_34 ?_
                  refine lv_topi (fun x_19 ex_19 => ?_)
                  have jx_19 : (x_19).toInt = (x_18).toInt + 8 := by rw [ex_19]; exact dk_addT2 rfl (by decide +kernel) (by omega)
                  refine W.widen (k := 0) (n := 0) (Nat.le_of_ble_eq_true rfl) (Nat.le_of_ble_eq_true rfl) ?_
                  exact dg_iret hx hb hr hlocks rfl hP hS ⟨rfl, (by omega), (by omega), (by omega), trivial⟩ dX2_placeOf_35
              · have hf_19 := dk_full a2
                have jc_15 := dk_nltc (k := (ry).toInt) rfl c_15
                refine lv_iconst (v := (-1)) hx hb dX2_placeOf_24 (by decide +kernel) ?_
                have hz_21 : (-1 : Int32).toInt = (-1) := by decide +kernel
                have hz_22 : (-1 : Int32).toInt = (-1) := by decide +kernel
                have hz_23 : (-1 : Int32).toInt = (-1) := by decide +kernel
                refine W.widen (k := 0) (n := 0) (Nat.le_of_ble_eq_true rfl) (Nat.le_of_ble_eq_true rfl) ?_
                exact dg_iret hx hb hr hlocks rfl hP hS ⟨rfl, (by decide +kernel), (by omega), (by omega), trivial⟩ dX2_placeOf_25
set_option maxHeartbeats 8000000 in
set_option maxRecDepth 100000 in
theorem c_g_minerNamed (l : Launch) (g : Nat → ClassId) (D : va_G) (o : Nat) (S : dg_S) (gr : Nat) (hk_gr : rX gr) (a1 : Int32) (fm : Nat → Int32) (mi : Int32) (f_mi : S.1 gr 6 = .int mi) (b_mi : 0 ≤ (mi).toInt ∧ (mi).toInt ≤ 6) (hfm : S.2.1 (gr + 2) = fm) (I : CX o S) (sz : Nat) : Met l yX2_minerNamed (bw yX2_minerNamed cX2_minerNamed 3 (some .int)) ({ frames := 1, cells := 0, slots := 0, locals := 32 } : Room) (dk_Pc g D (dg_w g shX o rfX S) sz [.ref (o + gr), .int a1]) (va_Qi (fun (r : Int32) S' => S' = S ∧ ((-1) ≤ (r).toInt ∧ (r).toInt ≤ 5) ∧ ((r).toInt ≠ -1 → (r).toInt = z_ix (y_nm fm (mi : Int32).toNatClampNeg) (a1).toInt) ∧ ((r).toInt ≠ -1 ↔ (y_nm fm (mi : Int32).toNatClampNeg).contains (a1).toInt = true) ∧ True) (dg_B g D shX o rfX) (dg_A o shX.length sz)) 0 0 (dg_A o shX.length sz) := by
  refine dg_met (cc := cX2_minerNamed) (maxL := 3) (ret := (some .int)) (dk_dq rfl) rfl (Nat.le_of_ble_eq_true rfl) ?_
  intro p e s m args below meth c A hAe harg hx hb hr hml hts hown hlocks hin hP K hS hA1 hA ST hsz ls hl
  rw [← hAe]
  have F : CallFix p m c cX2_minerNamed 3 s args (bw yX2_minerNamed cX2_minerNamed 3 (some .int)) RX2 := ⟨hx, hb, hml, hown, hts⟩
  have hl : lv_has ls 3 [(0, .ref (o + gr)), (1, .int a1)] := hl
  have M_0 : dg_sm shX [] [] S S := dg_sm.rf
  refine lv_iconst (v := 0) hx hb dX2_minerNamed_0 (by decide +kernel) ?_
  refine lv_istore_n (lv' := [(2, .int 0), (0, .ref (o + gr)), (1, .int a1)]) hx hb dX2_minerNamed_1 rfl hl (dk_dq rfl) rfl (fun ls hl => ?_)
  have L_70 : ∀ (n : Nat) (x_69 : Int32), (0 ≤ (x_69).toInt ∧ (x_69).toInt ≤ 6) → (∀ j9 : Nat, j9 < (x_69 : Int32).toNatClampNeg → (fm j9).toInt ≠ (a1).toInt) → ((7 - (x_69).toInt).toNat < n) → ∀ (H : Heap) (locs : List Loc), va_P D vwCl (dg_w g shX o rfX S) H → va_S A s.heap H locs → ∀ ls : Array Slot, lv_has ls 3 [(2, .int x_69), (0, .ref (o + gr)), (1, .int a1)] → W p l e ({ frames := 1, cells := 0, slots := 0, locals := 32 } : Room) s m args below meth c H locs 0 0 (MQ below (va_Qi (fun (r : Int32) S' => S' = S ∧ ((-1) ≤ (r).toInt ∧ (r).toInt ≤ 5) ∧ ((r).toInt ≠ -1 → (r).toInt = z_ix (y_nm fm (mi : Int32).toNatClampNeg) (a1).toInt) ∧ ((r).toInt ≠ -1 ↔ (y_nm fm (mi : Int32).toNatClampNeg).contains (a1).toInt = true) ∧ True) (dg_B g D shX o rfX) A) args s 0 0 A) (F0 m 2 ls []) := by
    as_aux_lemma =>
      intro n
      induction n with
      | zero =>
        intro x_69 b_x_69 rel_0 hmu H locs hP hS ls hl
        omega
      | succ n ih =>
        as_aux_lemma =>
          intro x_69 b_x_69 rel_0 hmu H locs hP hS ls hl
          refine lv_iload_n hx hb dX2_minerNamed_2 rfl (lv_at hl 0 rfl) ?_
          refine lv_aload_n hx hb dX2_minerNamed_3 rfl (lv_at hl 1 rfl) ?_
          refine dg_get (C := RX2) (T := TX2) (N := 19) hx hb hts (fun w h => bw_mem (wU_X2 w h)) hown K hP (rX_0 gr hk_gr) rfl 6 (dk_dq rfl) (hts _ (bw_mem wB_2)) (fun _ h9 => h9) (v := .int mi) f_mi dX2_minerNamed_4 ?_
          refine lv_icmp_ge (tgt := 28) hx hb dX2_minerNamed_7 (dk_dq rfl) (fun c_71 => ?_) (fun c_71 => ?_)
          · have jc_71 := dk_gec (k := (mi).toInt) rfl c_71
            refine lv_iconst (v := (-1)) hx hb dX2_minerNamed_28 (by decide +kernel) ?_
            have hz_72 : (-1 : Int32).toInt = (-1) := by decide +kernel
            have hz_73 : (-1 : Int32).toInt = (-1) := by decide +kernel
            have hz_74 : (-1 : Int32).toInt = (-1) := by decide +kernel
            refine W.widen (k := 0) (n := 0) (Nat.le_of_ble_eq_true rfl) (Nat.le_of_ble_eq_true rfl) ?_
            exact dg_iret hx hb hr hlocks rfl hP hS ⟨rfl, (by decide +kernel), (fun q9 => absurd (by omega) q9), ⟨fun q9 => absurd (by omega) q9, fun q9 => absurd q9 (by rw [y_hasnt (m := mi) rel_0 (by omega)]; decide)⟩, trivial⟩ dX2_minerNamed_29
          · as_aux_lemma =>
              have jc_71 := dk_ngec (k := (mi).toInt) rfl c_71
              refine lv_aload_n hx hb dX2_minerNamed_10 rfl (lv_at hl 1 rfl) ?_
              refine dg_get (C := RX2) (T := TX2) (N := 19) hx hb hts (fun w h => bw_mem (wU_X2 w h)) hown K hP (rX_0 gr hk_gr) rfl 7 (dk_dq rfl) (hts _ (bw_mem wB_3)) (fun _ h9 => h9) (v := .ref (o + (gr + 2))) (show S.1 gr 7 = .ref (o + (gr + 2)) from dg_I.rel (d := 2) I (rX_0 gr hk_gr) (by decide +kernel)) dX2_minerNamed_11 ?_
              refine lv_iload_n hx hb dX2_minerNamed_14 rfl (lv_at hl 0 rfl) ?_
              have hin_75 : vp_in x_69 6 := (dk_inv2 (by omega))
              refine dg_iald hx hb K hP (rX_2 gr hk_gr) hin_75 dX2_minerNamed_15 (fun x_76 ex_76 => ?_)
              have kx_76 : (fm (x_69 : Int32).toNatClampNeg).toInt = (x_76).toInt := by rw [ex_76, hfm]
              refine lv_iload_n hx hb dX2_minerNamed_16 rfl (lv_at hl 2 rfl) ?_
              refine lv_icmp_ne (tgt := 22) hx hb dX2_minerNamed_17 (dk_dq rfl) (fun c_77 => ?_) (fun c_77 => ?_)
              · have hf_77 := dk_full x_76
                have hf_78 := dk_full a1
                have jc_77 := dk_neqc (k := (a1).toInt) rfl c_77
                obtain ⟨x_80, ex_80⟩ : ∃ z, z = x_69 + 1 := ⟨_, rfl⟩
                have jx_80 : (x_80).toInt = (x_69).toInt + 1 := by rw [ex_80]; exact dk_addT2 rfl (by decide +kernel) (by omega)
                refine lv_iinc (v := x_80) (lv' := [(2, .int x_80), (0, .ref (o + gr)), (1, .int a1)]) hx hb dX2_minerNamed_22 hl (k := 0) rfl (by rw [ex_80]; rfl) (dk_dq rfl) rfl (fun ls hl => ?_)
                refine lv_goto (tgt := 2) hx hb dX2_minerNamed_25 (dk_dq rfl) ?_
                exact ih x_80 (by omega) (y_stp rel_0 (by omega) jx_80 (by omega)) (by first | exact mu_lt hmu (by omega) (by omega) | omega) _ _ hP hS _ (lv_sub hl [0, 1, 2] rfl)
              · have hf_80 := dk_full x_76
                have hf_81 := dk_full a1
                have jc_77 := dk_eqc (k := (a1).toInt) rfl c_77
                refine lv_iload_n hx hb dX2_minerNamed_20 rfl (lv_at hl 0 rfl) ?_
                refine W.widen (k := 0) (n := 0) (Nat.le_of_ble_eq_true rfl) (Nat.le_of_ble_eq_true rfl) ?_
                exact dg_iret hx hb hr hlocks rfl hP hS ⟨rfl, (by omega), (fun _ => by have h8 := dk_clN x_69; have h7 := dk_clN mi; have h9 := z_ix_nm (f := fm) (m := (mi : Int32).toNatClampNeg) (i := (x_69 : Int32).toNatClampNeg) (v := (a1).toInt) (by omega) (by omega) rel_0; omega), ⟨fun _ => y_has (k := x_69) (by omega) (by omega) (by omega), fun _ => by omega⟩, trivial⟩ dX2_minerNamed_21
  have hz_83 : (0 : Int32).toInt = 0 := by decide +kernel
  have hz_84 : (0 : Int32).toInt = 0 := by decide +kernel
  have hz_85 : (0 : Int32).toInt = 0 := by decide +kernel
  exact L_70 ((7 - ((0 : Int32)).toInt).toNat + 1) 0 (by decide +kernel) y_lt0 (by first | exact mu_lt hmu (by omega) (by omega) | omega) _ _ hP hS _ (lv_sub hl [0, 1, 2] rfl)
set_option maxHeartbeats 8000000 in
set_option maxRecDepth 100000 in
theorem c_g_hasName (l : Launch) (g : Nat → ClassId) (D : va_G) (o : Nat) (S : dg_S) (gr : Nat) (hk_gr : rX gr) (a1 : Int32) (fm : Nat → Int32) (fo : Nat → Int32) (mi : Int32) (f_mi : S.1 gr 6 = .int mi) (b_mi : 0 ≤ (mi).toInt ∧ (mi).toInt ≤ 6) (od : Int32) (f_od : S.1 gr 11 = .int od) (b_od : 0 ≤ (od).toInt ∧ (od).toInt ≤ 5) (hfm : S.2.1 (gr + 2) = fm) (hfo : S.2.1 (gr + 5) = fo) (I : CX o S) (sz : Nat) : Met l yX2_hasName (bw yX2_hasName cX2_hasName 3 (some .boolean)) ({ frames := 2, cells := 0, slots := 0, locals := 54 } : Room) (dk_Pc g D (dg_w g shX o rfX S) sz [.ref (o + gr), .int a1]) (va_Qi (fun (r : Int32) S' => S' = S ∧ (0 ≤ (r).toInt ∧ (r).toInt ≤ 1) ∧ ((r).toInt = 1 ↔ ((y_nm fm (mi : Int32).toNatClampNeg).contains (a1).toInt || (y_nm fo (od : Int32).toNatClampNeg).contains (a1).toInt) = true) ∧ True) (dg_B g D shX o rfX) (dg_A o shX.length sz)) 0 0 (dg_A o shX.length sz) := by
  refine dg_met (cc := cX2_hasName) (maxL := 3) (ret := (some .boolean)) (dk_dq rfl) rfl (Nat.le_of_ble_eq_true rfl) ?_
  intro p e s m args below meth c A hAe harg hx hb hr hml hts hown hlocks hin hP K hS hA1 hA ST hsz ls hl
  rw [← hAe]
  have F : CallFix p m c cX2_hasName 3 s args (bw yX2_hasName cX2_hasName 3 (some .boolean)) RX2 := ⟨hx, hb, hml, hown, hts⟩
  have hl : lv_has ls 3 [(0, .ref (o + gr)), (1, .int a1)] := hl
  have M_0 : dg_sm shX [] [] S S := dg_sm.rf
  refine lv_iconst (v := 0) hx hb dX2_hasName_0 (by decide +kernel) ?_
  refine lv_istore_n (lv' := [(2, .int 0), (0, .ref (o + gr)), (1, .int a1)]) hx hb dX2_hasName_1 rfl hl (dk_dq rfl) rfl (fun ls hl => ?_)
  have L_97 : ∀ (n : Nat) (x_96 : Int32), (0 ≤ (x_96).toInt ∧ (x_96).toInt ≤ 5) → (∀ j9 : Nat, j9 < (x_96 : Int32).toNatClampNeg → (fo j9).toInt ≠ (a1).toInt) → ((6 - (x_96).toInt).toNat < n) → ∀ (H : Heap) (locs : List Loc), va_P D vwCl (dg_w g shX o rfX S) H → va_S A s.heap H locs → ∀ ls : Array Slot, lv_has ls 3 [(2, .int x_96), (0, .ref (o + gr)), (1, .int a1)] → W p l e ({ frames := 2, cells := 0, slots := 0, locals := 54 } : Room) s m args below meth c H locs 0 0 (MQ below (va_Qi (fun (r : Int32) S' => S' = S ∧ (0 ≤ (r).toInt ∧ (r).toInt ≤ 1) ∧ ((r).toInt = 1 ↔ ((y_nm fm (mi : Int32).toNatClampNeg).contains (a1).toInt || (y_nm fo (od : Int32).toNatClampNeg).contains (a1).toInt) = true) ∧ True) (dg_B g D shX o rfX) A) args s 0 0 A) (F0 m 2 ls []) := by
    as_aux_lemma =>
      intro n
      induction n with
      | zero =>
        intro x_96 b_x_96 rel_0 hmu H locs hP hS ls hl
        omega
      | succ n ih =>
        as_aux_lemma =>
          intro x_96 b_x_96 rel_0 hmu H locs hP hS ls hl
          refine lv_iload_n hx hb dX2_hasName_2 rfl (lv_at hl 0 rfl) ?_
          refine lv_aload_n hx hb dX2_hasName_3 rfl (lv_at hl 1 rfl) ?_
          refine dg_get (C := RX2) (T := TX2) (N := 19) hx hb hts (fun w h => bw_mem (wU_X2 w h)) hown K hP (rX_0 gr hk_gr) rfl 11 (dk_dq rfl) (hts _ (bw_mem wB_4)) (fun _ h9 => h9) (v := .int od) f_od dX2_hasName_4 ?_
          refine lv_icmp_ge (tgt := 28) hx hb dX2_hasName_7 (dk_dq rfl) (fun c_98 => ?_) (fun c_98 => ?_)
          · as_aux_lemma =>
              have jc_98 := dk_gec (k := (od).toInt) rfl c_98
              refine lv_aload_n hx hb dX2_hasName_28 rfl (lv_at hl 1 rfl) ?_
              refine lv_iload_n hx hb dX2_hasName_29 rfl (lv_at hl 2 rfl) ?_
              refine dg_calli hS hA1 hA (va_runV (As := [.int a1]) (rest := []) F (c_g_minerNamed l g D o S gr hk_gr a1 fm mi f_mi (by omega) hfm I H.size) (cwV 1 hts (bw_V wB_6 wB_7 wB_8 wB_9 wB_5) rfl rfl rfl (by decide +kernel) ⟨Nat.le_of_ble_eq_true rfl, Nat.le_of_ble_eq_true rfl⟩) (dg_preV (rX_0 gr hk_gr) rfl K ST hP hS hA1 hA) rfl rfl hl.1 rfl (lv_room (Nat.le_of_ble_eq_true rfl)) dX2_hasName_30 ⟨Nat.le_of_ble_eq_true rfl, Nat.le_of_ble_eq_true rfl⟩) (fun x_99 S_100 hw_100 H locs hP hS => ?_)
              rw [hw_100.1] at hP
              obtain ⟨hq_100, w_100_0, w_100_1, w_100_2, -⟩ := hw_100
              have w_100_0 : (-1) ≤ (x_99).toInt ∧ (x_99).toInt ≤ 5 := w_100_0
              have w_100_1 : (x_99).toInt ≠ -1 → (x_99).toInt = z_ix (y_nm fm (mi : Int32).toNatClampNeg) (a1).toInt := w_100_1
              have w_100_2 : (x_99).toInt ≠ -1 ↔ (y_nm fm (mi : Int32).toNatClampNeg).contains (a1).toInt = true := w_100_2
              refine lv_iconst (v := (-1)) hx hb dX2_hasName_33 (by decide +kernel) ?_
              refine lv_icmp_eq (tgt := 41) hx hb dX2_hasName_34 (dk_dq rfl) (fun c_101 => ?_) (fun c_101 => ?_)
              · have jc_101 := dk_eqc (k := (-1)) (by decide +kernel) c_101
                refine lv_iconst (v := 0) hx hb dX2_hasName_41 (by decide +kernel) ?_
                have hz_102 : (0 : Int32).toInt = 0 := by decide +kernel
                have hz_103 : (0 : Int32).toInt = 0 := by decide +kernel
                refine W.widen (k := 0) (n := 0) (Nat.le_of_ble_eq_true rfl) (Nat.le_of_ble_eq_true rfl) ?_
                exact dg_iret hx hb hr hlocks (by decide +kernel) hP hS ⟨rfl, (by decide +kernel), ⟨fun q9 => absurd q9 (by omega), fun q9 => absurd q9 (by rw [g_iff_f w_100_2 (by omega), y_hasnt (m := od) rel_0 (by omega)]; decide)⟩, trivial⟩ dX2_hasName_42
              · have jc_101 := dk_neqc (k := (-1)) (by decide +kernel) c_101
                refine lv_iconst (v := 1) hx hb dX2_hasName_37 (by decide +kernel) ?_
                refine lv_goto (tgt := 42) hx hb dX2_hasName_38 (dk_dq rfl) ?_
                have hz_104 : (1 : Int32).toInt = 1 := by decide +kernel
                have hz_105 : (1 : Int32).toInt = 1 := by decide +kernel
                refine W.widen (k := 0) (n := 0) (Nat.le_of_ble_eq_true rfl) (Nat.le_of_ble_eq_true rfl) ?_
                exact dg_iret hx hb hr hlocks (by decide +kernel) hP hS ⟨rfl, (by decide +kernel), ⟨fun _ => by rw [w_100_2.mp (by omega)]; simp, fun _ => by omega⟩, trivial⟩ dX2_hasName_42
          · as_aux_lemma =>
              have jc_98 := dk_ngec (k := (od).toInt) rfl c_98
              refine lv_aload_n hx hb dX2_hasName_10 rfl (lv_at hl 1 rfl) ?_
              refine dg_get (C := RX2) (T := TX2) (N := 19) hx hb hts (fun w h => bw_mem (wU_X2 w h)) hown K hP (rX_0 gr hk_gr) rfl 12 (dk_dq rfl) (hts _ (bw_mem wB_10)) (fun _ h9 => h9) (v := .ref (o + (gr + 5))) (show S.1 gr 12 = .ref (o + (gr + 5)) from dg_I.rel (d := 5) I (rX_0 gr hk_gr) (by decide +kernel)) dX2_hasName_11 ?_
              refine lv_iload_n hx hb dX2_hasName_14 rfl (lv_at hl 0 rfl) ?_
              have hin_106 : vp_in x_96 5 := (dk_inv2 (by omega))
              refine dg_iald hx hb K hP (rX_5 gr hk_gr) hin_106 dX2_hasName_15 (fun x_107 ex_107 => ?_)
              have kx_107 : (fo (x_96 : Int32).toNatClampNeg).toInt = (x_107).toInt := by rw [ex_107, hfo]
              refine lv_iload_n hx hb dX2_hasName_16 rfl (lv_at hl 2 rfl) ?_
              refine lv_icmp_ne (tgt := 22) hx hb dX2_hasName_17 (dk_dq rfl) (fun c_108 => ?_) (fun c_108 => ?_)
              · have hf_108 := dk_full x_107
                have hf_109 := dk_full a1
                have jc_108 := dk_neqc (k := (a1).toInt) rfl c_108
                obtain ⟨x_111, ex_111⟩ : ∃ z, z = x_96 + 1 := ⟨_, rfl⟩
                have jx_111 : (x_111).toInt = (x_96).toInt + 1 := by rw [ex_111]; exact dk_addT2 rfl (by decide +kernel) (by omega)
                refine lv_iinc (v := x_111) (lv' := [(2, .int x_111), (0, .ref (o + gr)), (1, .int a1)]) hx hb dX2_hasName_22 hl (k := 0) rfl (by rw [ex_111]; rfl) (dk_dq rfl) rfl (fun ls hl => ?_)
                refine lv_goto (tgt := 2) hx hb dX2_hasName_25 (dk_dq rfl) ?_
                exact ih x_111 (by omega) (y_stp rel_0 (by omega) jx_111 (by omega)) (by first | exact mu_lt hmu (by omega) (by omega) | omega) _ _ hP hS _ (lv_sub hl [0, 1, 2] rfl)
              · have hf_111 := dk_full x_107
                have hf_112 := dk_full a1
                have jc_108 := dk_eqc (k := (a1).toInt) rfl c_108
                refine lv_iconst (v := 1) hx hb dX2_hasName_20 (by decide +kernel) ?_
                have hz_114 : (1 : Int32).toInt = 1 := by decide +kernel
                have hz_115 : (1 : Int32).toInt = 1 := by decide +kernel
                refine W.widen (k := 0) (n := 0) (Nat.le_of_ble_eq_true rfl) (Nat.le_of_ble_eq_true rfl) ?_
                exact dg_iret hx hb hr hlocks (by decide +kernel) hP hS ⟨rfl, (by decide +kernel), ⟨fun _ => by rw [y_has (f := fo) (k := x_96) (m := od) (v := (a1).toInt) (by omega) (by omega) (by omega)]; simp, fun _ => by omega⟩, trivial⟩ dX2_hasName_21
  have hz_116 : (0 : Int32).toInt = 0 := by decide +kernel
  have hz_117 : (0 : Int32).toInt = 0 := by decide +kernel
  have hz_118 : (0 : Int32).toInt = 0 := by decide +kernel
  exact L_97 ((6 - ((0 : Int32)).toInt).toNat + 1) 0 (by decide +kernel) y_lt0 (by first | exact mu_lt hmu (by omega) (by omega) | omega) _ _ hP hS _ (lv_sub hl [0, 1, 2] rfl)
set_option maxHeartbeats 8000000 in
set_option maxRecDepth 100000 in
theorem c_g_hasRule (l : Launch) (g : Nat → ClassId) (D : va_G) (o : Nat) (S : dg_S) (gr : Nat) (hk_gr : rX gr) (a1 : Int32) (b_a1 : 0 ≤ (a1).toInt ∧ (a1).toInt ≤ 2) (fr : Nat → Int32) (fe : Nat → Int32) (hfr : S.2.1 (gr + 10) = fr) (hfe : S.2.1 (gr + 11) = fe) (I : CX o S) (sz : Nat) : Met l yX2_hasRule (bw yX2_hasRule cX2_hasRule 2 (some .boolean)) ({ frames := 1, cells := 0, slots := 0, locals := 32 } : Room) (dk_Pc g D (dg_w g shX o rfX S) sz [.ref (o + gr), .int a1]) (va_Qi (fun (r : Int32) S' => S' = S ∧ (0 ≤ (r).toInt ∧ (r).toInt ≤ 1) ∧ ((r).toInt = 1 ↔ (fr (a1 : Int32).toNatClampNeg).toInt < (fe (a1 : Int32).toNatClampNeg).toInt) ∧ True) (dg_B g D shX o rfX) (dg_A o shX.length sz)) 0 0 (dg_A o shX.length sz) := by
  refine dg_met (cc := cX2_hasRule) (maxL := 2) (ret := (some .boolean)) (dk_dq rfl) rfl (Nat.le_of_ble_eq_true rfl) ?_
  intro p e s m args below meth c A hAe harg hx hb hr hml hts hown hlocks hin hP K hS hA1 hA ST hsz ls hl
  rw [← hAe]
  have F : CallFix p m c cX2_hasRule 2 s args (bw yX2_hasRule cX2_hasRule 2 (some .boolean)) RX2 := ⟨hx, hb, hml, hown, hts⟩
  have hl : lv_has ls 2 [(0, .ref (o + gr)), (1, .int a1)] := hl
  have M_0 : dg_sm shX [] [] S S := dg_sm.rf
  refine lv_aload_n hx hb dX2_hasRule_0 rfl (lv_at hl 0 rfl) ?_
  refine dg_get (C := RX2) (T := TX2) (N := 19) hx hb hts (fun w h => bw_mem (wU_X2 w h)) hown K hP (rX_0 gr hk_gr) rfl 18 (dk_dq rfl) (hts _ (bw_mem wB_11)) (fun _ h9 => h9) (v := .ref (o + (gr + 11))) (show S.1 gr 18 = .ref (o + (gr + 11)) from dg_I.rel (d := 11) I (rX_0 gr hk_gr) (by decide +kernel)) dX2_hasRule_1 ?_
  refine lv_iload_n hx hb dX2_hasRule_4 rfl (lv_at hl 1 rfl) ?_
  have hin_1 : vp_in a1 3 := (dk_inv2 (by omega))
  refine dg_iald hx hb K hP (rX_11 gr hk_gr) hin_1 dX2_hasRule_5 (fun x_2 ex_2 => ?_)
  have b_x_2 := dk_all_at (dg_I.row (lo := 0) (hi := 1600) I (rX_11 gr hk_gr) (by decide +kernel)) hin_1 ex_2
  have kx_2 : (fe (a1 : Int32).toNatClampNeg).toInt = (x_2).toInt := by rw [ex_2, hfe]
  refine lv_aload_n hx hb dX2_hasRule_6 rfl (lv_at hl 0 rfl) ?_
  refine dg_get (C := RX2) (T := TX2) (N := 19) hx hb hts (fun w h => bw_mem (wU_X2 w h)) hown K hP (rX_0 gr hk_gr) rfl 17 (dk_dq rfl) (hts _ (bw_mem wB_12)) (fun _ h9 => h9) (v := .ref (o + (gr + 10))) (show S.1 gr 17 = .ref (o + (gr + 10)) from dg_I.rel (d := 10) I (rX_0 gr hk_gr) (by decide +kernel)) dX2_hasRule_7 ?_
  refine lv_iload_n hx hb dX2_hasRule_10 rfl (lv_at hl 1 rfl) ?_
  have hin_3 : vp_in a1 3 := (dk_inv2 (by omega))
  refine dg_iald hx hb K hP (rX_10 gr hk_gr) hin_3 dX2_hasRule_11 (fun x_4 ex_4 => ?_)
  have b_x_4 := dk_all_at (dg_I.row (lo := 0) (hi := 1600) I (rX_10 gr hk_gr) (by decide +kernel)) hin_3 ex_4
  have kx_4 : (fr (a1 : Int32).toNatClampNeg).toInt = (x_4).toInt := by rw [ex_4, hfr]
  refine lv_icmp_le (tgt := 19) hx hb dX2_hasRule_12 (dk_dq rfl) (fun c_5 => ?_) (fun c_5 => ?_)
  · have jc_5 := dk_lec (k := (x_4).toInt) rfl c_5
    refine lv_iconst (v := 0) hx hb dX2_hasRule_19 (by decide +kernel) ?_
    have hz_6 : (0 : Int32).toInt = 0 := by decide +kernel
    have hz_7 : (0 : Int32).toInt = 0 := by decide +kernel
    refine W.widen (k := 0) (n := 0) (Nat.le_of_ble_eq_true rfl) (Nat.le_of_ble_eq_true rfl) ?_
    exact dg_iret hx hb hr hlocks (by decide +kernel) hP hS ⟨rfl, (by decide +kernel), ⟨fun _ => by omega, fun _ => by omega⟩, trivial⟩ dX2_hasRule_20
  · have jc_5 := dk_nlec (k := (x_4).toInt) rfl c_5
    refine lv_iconst (v := 1) hx hb dX2_hasRule_15 (by decide +kernel) ?_
    refine lv_goto (tgt := 20) hx hb dX2_hasRule_16 (dk_dq rfl) ?_
    have hz_8 : (1 : Int32).toInt = 1 := by decide +kernel
    have hz_9 : (1 : Int32).toInt = 1 := by decide +kernel
    refine W.widen (k := 0) (n := 0) (Nat.le_of_ble_eq_true rfl) (Nat.le_of_ble_eq_true rfl) ?_
    exact dg_iret hx hb hr hlocks (by decide +kernel) hP hS ⟨rfl, (by decide +kernel), ⟨fun _ => by omega, fun _ => by omega⟩, trivial⟩ dX2_hasRule_20
set_option maxHeartbeats 8000000 in
set_option maxRecDepth 100000 in
theorem c_g_placeOf (l : Launch) (g : Nat → ClassId) (D : va_G) (o : Nat) (S : dg_S) (gr : Nat) (hk_gr : rX gr) (a1 : Int32) (a2 : Int32) (cx : Int32) (f_cx : S.1 gr 0 = .int cx) (b_cx : 0 ≤ (cx).toInt ∧ (cx).toInt ≤ 7) (ry : Int32) (f_ry : S.1 gr 1 = .int ry) (b_ry : 0 ≤ (ry).toInt ∧ (ry).toInt ≤ 7) (I : CX o S) (sz : Nat) : Met l yX2_placeOf (bw yX2_placeOf cX2_placeOf 3 (some .int)) ({ frames := 1, cells := 0, slots := 0, locals := 32 } : Room) (dk_Pc g D (dg_w g shX o rfX S) sz [.ref (o + gr), .int a1, .int a2]) (va_Qi (fun (r : Int32) S' => S' = S ∧ (((-1) ≤ (r).toInt ∧ (r).toInt ≤ 62) ∧ ((r).toInt ≤ (-1) ∨ 8 ≤ (r).toInt)) ∧ ((0 ≤ (a1).toInt ∧ (a1).toInt < (cx).toInt ∧ 0 ≤ (a2).toInt ∧ (a2).toInt < (ry).toInt) → 8 ≤ (r).toInt) ∧ True) (dg_B g D shX o rfX) (dg_A o shX.length sz)) 0 0 (dg_A o shX.length sz) := by
  refine dg_met (cc := cX2_placeOf) (maxL := 3) (ret := (some .int)) (dk_dq rfl) rfl (Nat.le_of_ble_eq_true rfl) ?_
  intro p e s m args below meth c A hAe harg hx hb hr hml hts hown hlocks hin hP K hS hA1 hA ST hsz ls hl
  rw [← hAe]
  have F : CallFix p m c cX2_placeOf 3 s args (bw yX2_placeOf cX2_placeOf 3 (some .int)) RX2 := ⟨hx, hb, hml, hown, hts⟩
  have hl : lv_has ls 3 [(0, .ref (o + gr)), (1, .int a1), (2, .int a2)] := hl
  have M_0 : dg_sm shX [] [] S S := dg_sm.rf
  refine lv_iload_n hx hb dX2_placeOf_0 rfl (lv_at hl 1 rfl) ?_
  refine lv_if_lt (tgt := 24) hx hb dX2_placeOf_1 (dk_dq rfl) (fun c_1 => ?_) (fun c_1 => ?_)
  · have jc_1 := dk_ltc (k := 0) (by decide +kernel) c_1
    refine lv_iconst (v := (-1)) hx hb dX2_placeOf_24 (by decide +kernel) ?_
    have hz_2 : (-1 : Int32).toInt = (-1) := by decide +kernel
    have hz_3 : (-1 : Int32).toInt = (-1) := by decide +kernel
    refine W.widen (k := 0) (n := 0) (Nat.le_of_ble_eq_true rfl) (Nat.le_of_ble_eq_true rfl) ?_
    exact dg_iret hx hb hr hlocks rfl hP hS ⟨rfl, (by decide +kernel), (by omega), trivial⟩ dX2_placeOf_25
  · as_aux_lemma =>
      have jc_1 := dk_nltc (k := 0) (by decide +kernel) c_1
      refine lv_iload_n hx hb dX2_placeOf_4 rfl (lv_at hl 1 rfl) ?_
      refine lv_aload_n hx hb dX2_placeOf_5 rfl (lv_at hl 0 rfl) ?_
      refine dg_get (C := RX2) (T := TX2) (N := 19) hx hb hts (fun w h => bw_mem (wU_X2 w h)) hown K hP (rX_0 gr hk_gr) rfl 0 (dk_dq rfl) (hts _ (bw_mem wB_0)) (fun _ h9 => h9) (v := .int cx) f_cx dX2_placeOf_6 ?_
      refine lv_icmp_ge (tgt := 24) hx hb dX2_placeOf_9 (dk_dq rfl) (fun c_4 => ?_) (fun c_4 => ?_)
      · have hf_4 := dk_full a1
        have jc_4 := dk_gec (k := (cx).toInt) rfl c_4
        refine lv_iconst (v := (-1)) hx hb dX2_placeOf_24 (by decide +kernel) ?_
        have hz_6 : (-1 : Int32).toInt = (-1) := by decide +kernel
        have hz_7 : (-1 : Int32).toInt = (-1) := by decide +kernel
        refine W.widen (k := 0) (n := 0) (Nat.le_of_ble_eq_true rfl) (Nat.le_of_ble_eq_true rfl) ?_
        exact dg_iret hx hb hr hlocks rfl hP hS ⟨rfl, (by decide +kernel), (by omega), trivial⟩ dX2_placeOf_25
      · as_aux_lemma =>
          have hf_7 := dk_full a1
          have jc_4 := dk_ngec (k := (cx).toInt) rfl c_4
          refine lv_iload_n hx hb dX2_placeOf_12 rfl (lv_at hl 2 rfl) ?_
          refine lv_if_lt (tgt := 24) hx hb dX2_placeOf_13 (dk_dq rfl) (fun c_9 => ?_) (fun c_9 => ?_)
          · have jc_9 := dk_ltc (k := 0) (by decide +kernel) c_9
            refine lv_iconst (v := (-1)) hx hb dX2_placeOf_24 (by decide +kernel) ?_
            have hz_10 : (-1 : Int32).toInt = (-1) := by decide +kernel
            have hz_11 : (-1 : Int32).toInt = (-1) := by decide +kernel
            refine W.widen (k := 0) (n := 0) (Nat.le_of_ble_eq_true rfl) (Nat.le_of_ble_eq_true rfl) ?_
            exact dg_iret hx hb hr hlocks rfl hP hS ⟨rfl, (by decide +kernel), (by omega), trivial⟩ dX2_placeOf_25
          · as_aux_lemma =>
              have jc_9 := dk_nltc (k := 0) (by decide +kernel) c_9
              refine lv_iload_n hx hb dX2_placeOf_16 rfl (lv_at hl 2 rfl) ?_
              refine lv_aload_n hx hb dX2_placeOf_17 rfl (lv_at hl 0 rfl) ?_
              refine dg_get (C := RX2) (T := TX2) (N := 19) hx hb hts (fun w h => bw_mem (wU_X2 w h)) hown K hP (rX_0 gr hk_gr) rfl 1 (dk_dq rfl) (hts _ (bw_mem wB_1)) (fun _ h9 => h9) (v := .int ry) f_ry dX2_placeOf_18 ?_
              refine lv_icmp_lt (tgt := 26) hx hb dX2_placeOf_21 (dk_dq rfl) (fun c_12 => ?_) (fun c_12 => ?_)
              · as_aux_lemma =>
                  have hf_12 := dk_full a2
                  have jc_12 := dk_ltc (k := (ry).toInt) rfl c_12
                  refine lv_bipush (v := 8) hx hb dX2_placeOf_26 (by decide +kernel) ?_
                  refine lv_iload_n hx hb dX2_placeOf_28 rfl (lv_at hl 2 rfl) ?_
                  refine lv_imul hx hb dX2_placeOf_29 ?_
                  refine lv_topi (fun x_14 ex_14 => ?_)
                  have jx_14 : (x_14).toInt = 8 * (a2).toInt := by rw [ex_14]; exact dk_mulT2 (by decide +kernel) rfl (by omega)
                  refine lv_iload_n hx hb dX2_placeOf_30 rfl (lv_at hl 1 rfl) ?_
                  refine lv_iadd hx hb dX2_placeOf_31 ?_
                  refine lv_topi (fun x_15 ex_15 => ?_)
                  have jx_15 : (x_15).toInt = (x_14).toInt + (a1).toInt := by rw [ex_15]; exact dk_addT2 rfl rfl (by omega)
                  refine lv_bipush (v := 8) hx hb dX2_placeOf_32 (by decide +kernel) ?_
                  refine lv_iadd hx hb dX2_placeOf_34 ?_
                  refine lv_topi (fun x_16 ex_16 => ?_)
                  have jx_16 : (x_16).toInt = (x_15).toInt + 8 := by rw [ex_16]; exact dk_addT2 rfl (by decide +kernel) (by omega)
                  refine W.widen (k := 0) (n := 0) (Nat.le_of_ble_eq_true rfl) (Nat.le_of_ble_eq_true rfl) ?_
                  exact dg_iret hx hb hr hlocks rfl hP hS ⟨rfl, (by omega), (by omega), trivial⟩ dX2_placeOf_35
              · have hf_16 := dk_full a2
                have jc_12 := dk_nltc (k := (ry).toInt) rfl c_12
                refine lv_iconst (v := (-1)) hx hb dX2_placeOf_24 (by decide +kernel) ?_
                have hz_18 : (-1 : Int32).toInt = (-1) := by decide +kernel
                have hz_19 : (-1 : Int32).toInt = (-1) := by decide +kernel
                refine W.widen (k := 0) (n := 0) (Nat.le_of_ble_eq_true rfl) (Nat.le_of_ble_eq_true rfl) ?_
                exact dg_iret hx hb hr hlocks rfl hP hS ⟨rfl, (by decide +kernel), (by omega), trivial⟩ dX2_placeOf_25
      
end
section
/-! the ground that isn't read into: as it was in S0 -/
theorem gg_r {d : Nat} (h : rX d) : d = 185 ∨ d = 197 := by
  have h2 : d ∈ ([185, 197] : List Nat) := h
  simpa using h2
/-- changes of no ground -/
def gg_nF (WF : List (Nat × Nat)) : Bool := WF.all fun p => p.1 != 19
def gg_nA (WA : List Nat) : Bool := WA.all fun r => decide (r < 20) || decide (r = 28) || decide (30 < r)
theorem gg_F {WF : List (Nat × Nat)} (h : gg_nF WF = true) (k : Nat) : (19, k) ∉ WF := fun z => by
  have h2 := List.all_eq_true.mp h _ z
  simp at h2
theorem gg_A {WA : List Nat} (h : gg_nA WA = true) {r : Nat} (h1 : 20 ≤ r) (h2 : r ≤ 30) (h3 : r ≠ 28) : r ∉ WA := fun z => by
  have h4 := List.all_eq_true.mp h _ z
  simp only [Bool.or_eq_true, decide_eq_true_eq] at h4
  omega
theorem gg_row {d j : Nat} (h : rX d) (h1 : 1 ≤ j) (h2 : j < 12) : ∃ q, shX[d + j]? = some q ∧ q.2.2.2 = 19 + j := by
  have hj : j = 1 ∨ j = 2 ∨ j = 3 ∨ j = 4 ∨ j = 5 ∨ j = 6 ∨ j = 7 ∨ j = 8 ∨ j = 9 ∨ j = 10 ∨ j = 11 := by omega
  rcases hj with rfl | rfl | rfl | rfl | rfl | rfl | rfl | rfl | rfl | rfl | rfl
  · exact ⟨_, rX_1 d h, rfl⟩
  · exact ⟨_, rX_2 d h, rfl⟩
  · exact ⟨_, rX_3 d h, rfl⟩
  · exact ⟨_, rX_4 d h, rfl⟩
  · exact ⟨_, rX_5 d h, rfl⟩
  · exact ⟨_, rX_6 d h, rfl⟩
  · exact ⟨_, rX_7 d h, rfl⟩
  · exact ⟨_, rX_8 d h, rfl⟩
  · exact ⟨_, rX_9 d h, rfl⟩
  · exact ⟨_, rX_10 d h, rfl⟩
  · exact ⟨_, rX_11 d h, rfl⟩
theorem gg_obj {d : Nat} (h : rX d) : ∃ q, shX[d]? = some q ∧ q.2.2.2 = 19 := ⟨_, rX_0 d h, rfl⟩
def GOX (S0 : dg_S) (d : Nat) (S : dg_S) : Prop := rX d ∧ (∀ k : Nat, S.1 d k = S0.1 d k) ∧ ∀ j : Nat, 1 ≤ j → j < 12 → j ≠ 9 → S.2.1 (d + j) = S0.2.1 (d + j)
section GOXs
variable {S0 S S1 : dg_S} {d gd k j : Nat} {WF : List (Nat × Nat)} {WA : List Nat} {v : Value} {r : Nat → Int32}
theorem GOX.init (h : rX d) : GOX S d S := ⟨h, fun _ => rfl, fun _ _ _ _ => rfl⟩
theorem gg_keepF (h : rX d) (m : dg_sm shX WF WA S S1) (hF : gg_nF WF = true) (k : Nat) : S1.1 d k = S.1 d k := by
  obtain ⟨q, e, er⟩ := gg_obj h
  exact m.1 d k q e (by rw [er]; exact gg_F hF k)
theorem gg_keepA (h : rX d) (m : dg_sm shX WF WA S S1) (hA : gg_nA WA = true) (h1 : 1 ≤ j) (h2 : j < 12) (h3 : j ≠ 9) : S1.2.1 (d + j) = S.2.1 (d + j) := by
  obtain ⟨q, e, er⟩ := gg_row h h1 h2
  exact (m.2 (d + j) q e (by rw [er]; exact gg_A hA (by omega) (by omega) (by omega))).1
theorem GOX.keep (h : GOX S0 d S) (m : dg_sm shX WF WA S S1) (hF : gg_nF WF = true) (hA : gg_nA WA = true) : GOX S0 d S1 :=
  ⟨h.1, fun k => (gg_keepF h.1 m hF k).trans (h.2.1 k), fun j h1 h2 h3 => (gg_keepA h.1 m hA h1 h2 h3).trans (h.2.2 j h1 h2 h3)⟩
theorem GOX.uF (h : GOX S0 d S) (hd : d ≠ gd) (e : S1 = dg_uF S gd k v) : GOX S0 d S1 :=
  ⟨h.1, fun k' => (dg_uF_ne e (fun z => hd z.1)).trans (h.2.1 k'), fun j h1 h2 h3 => by rw [dg_uF_f e]; exact h.2.2 j h1 h2 h3⟩
theorem gg_apart {i : Nat} (h : rX d) (hg : rX gd) (hd : d ≠ gd) (h2 : j < 12) (h3 : i < 12) : d + j ≠ gd + i := by
  rcases gg_r h with rfl | rfl <;> rcases gg_r hg with rfl | rfl <;> omega
theorem GOX.uf (h : GOX S0 d S) (hg : rX gd) (hd : d ≠ gd) {i : Nat} (hi : i < 12) (e : S1 = dg_uf S (gd + i) r) : GOX S0 d S1 :=
  ⟨h.1, fun k' => (dg_uf_F e d k').trans (h.2.1 k'), fun j h1 h2 h3 => by rw [dg_uf_ne e (gg_apart h.1 hg hd h2 hi)]; exact h.2.2 j h1 h2 h3⟩
end GOXs
end
