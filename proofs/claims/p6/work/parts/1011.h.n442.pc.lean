/-! the reference's parser: what each of its acts does to what waits -/
theorem QSM.uf {S S1 : dg_S} {r : Nat} {f : Nat → Int32} {x : Int} (hr : r ≠ 16 ∧ r ≠ 17 ∧ r ≠ 18) (e : S1 = dg_uf S r f) (h : QSM S x) : QSM S1 x := by
  intro i w cd q1 q2 q3
  rw [dg_uf_F e] at q1 q2 q3
  have := h i w cd q1 q2 q3
  unfold dk_qs dk_pc at this ⊢
  rw [dg_uf_ne e (fun z => hr.1 z.symm), dg_uf_ne e (fun z => hr.2.1 z.symm), dg_uf_ne e (fun z => hr.2.2 z.symm)]
  exact this
theorem QSM.uF {S S1 : dg_S} {k : Nat} {v : Value} {x : Int} (hk : k ≠ 34 ∧ k ≠ 35 ∧ k ≠ 36) (e : S1 = dg_uF S 0 k v) (h : QSM S x) : QSM S1 x := by
  intro i w cd q1 q2 q3
  rw [dg_uF_ne e (fun z => hk.2.1 z.2.symm)] at q1
  rw [dg_uF_ne e (fun z => hk.2.2 z.2.symm)] at q2
  rw [dg_uF_ne e (fun z => hk.1 z.2.symm)] at q3
  have := h i w cd q1 q2 q3
  unfold dk_qs dk_pc at this ⊢
  rw [dg_uF_f e, dg_uF_f e, dg_uF_f e]
  exact this
theorem dk_ex_top {fr pr : Nat → Int32} {d : Nat} (h : 1 ≤ d) : dk_ex fr pr d = dk_ex fr pr (d - 1) + dk_ex1 (fr (d - 1)).toInt (pr (d - 1)).toInt := by
  obtain ⟨k, rfl⟩ : ∃ k, d = k + 1 := ⟨d - 1, by omega⟩
  rfl
theorem dk_upd_o {f : Nat → Int32} {i j : Nat} {v : Int32} (h : j ≠ i) : upd f i v j = f j := by unfold upd; rw [if_neg h]
theorem dk_upd_s {f : Nat → Int32} {i : Nat} {v : Int32} : upd f i v i = v := by unfold upd; rw [if_pos rfl]
section DKEV
variable {S S1 S2 S3 S4 : dg_S} {dp on om fx : Int32}
/-- an operand begins -/
theorem P0M.bg0 {v : Int32} (h : P0M S) (f1 : S.1 0 42 = .int dp) (hd : 1 ≤ dp.toInt) (hf : fx.toInt = dp.toInt - 1) (hv : v.toInt = 0) (e : S1 = dg_uf S 24 (upd (S.2.1 24) fx.toNatClampNeg v)) : PBM S1 := by
  have ef : fx.toNatClampNeg = dp.toNatClampNeg - 1 := by rw [dk_clN, dk_clN]; omega
  have e1 := dk_clN dp
  rw [ef] at e
  refine ⟨fun dp' on om q1 q2 q3 => ?_, fun dp' q => ?_⟩
  · rw [dg_uf_F e] at q1 q2 q3
    cases f1.symm.trans q1
    obtain ⟨a1, a2, a3, a4, a5⟩ := h dp on om q1 q2 q3
    rw [dg_uf_at e, dg_uf_ne (a := 22) e (by decide), dg_uf_ne (a := 23) e (by decide), dg_uf_ne (a := 25) e (by decide), dg_uf_ne (a := 26) e (by decide), dg_uf_ne (a := 27) e (by decide)]
    obtain ⟨b1, b2, b3, b4, b5⟩ := a1.top
    refine ⟨a1.flag (fun _ _ => rfl) (fun _ _ => rfl) (fun j hj => dk_upd_o (by omega)) (fun _ _ => rfl) (fun i i1 i2 w => (b4 i i1 i2).2.2.2.1 w) (fun i i1 i2 w => ?_) b5, fun z => absurd z (by decide), a3, a4, a5.uf ⟨by decide, by decide, by decide⟩ e⟩
    rw [dk_upd_s] at w
    omega
  · rw [dg_uf_F e] at q
    cases f1.symm.trans q
    rw [dg_uf_at e, dk_upd_s]
    exact hv
/-- NOT -/
theorem P0M.not {on' k t : Int32} (h : P0M S) (f1 : S.1 0 42 = .int dp) (f2 : S.1 0 43 = .int on) (f3 : S.1 0 45 = .int om) (hf : fx.toInt = dp.toInt - 1) (t22 : S.2.1 22 fx.toNatClampNeg = k) (hk : dk_ts k.toInt) (b24 : (S.2.1 24 fx.toNatClampNeg).toInt = 1) (h6 : on.toInt ≠ 7) (e1 : S1 = dg_uF S 0 43 (.int on')) (hon : on'.toInt = on.toInt + 1) (m : dg_sm shM [(0, 45)] [27] S1 S2) (hb : HBM S1 S2 t) (ht : t.toInt = 43) : P0M S2 := by
  have dd := PSM.dims h f1 f2 f3
  have ef : fx.toNatClampNeg = dp.toNatClampNeg - 1 := by rw [dk_clN, dk_clN]; omega
  rw [ef] at t22 b24
  obtain ⟨g27, om', g3, hom⟩ := hb om (by rw [dg_uF_ne e1 (fun z => absurd z.2 (by decide))]; exact f3)
  rw [dg_uF_f e1] at g27
  have g22 : S2.2.1 22 = S.2.1 22 := ((m.2 22 _ sM_22 (by decide)).1).trans (dg_uF_f e1 22)
  have g23 : S2.2.1 23 = S.2.1 23 := ((m.2 23 _ sM_23 (by decide)).1).trans (dg_uF_f e1 23)
  have g24 : S2.2.1 24 = S.2.1 24 := ((m.2 24 _ sM_24 (by decide)).1).trans (dg_uF_f e1 24)
  have g25 : S2.2.1 25 = S.2.1 25 := ((m.2 25 _ sM_25 (by decide)).1).trans (dg_uF_f e1 25)
  have g26 : S2.2.1 26 = S.2.1 26 := ((m.2 26 _ sM_26 (by decide)).1).trans (dg_uF_f e1 26)
  obtain ⟨a1, a2, a3, a4, a5⟩ := h dp on om f1 f2 f3
  obtain ⟨b1, b2, b3, b4, b5⟩ := a1.top
  have e2 := dk_clN om
  refine PSM.push h f1 f2 f3 (on' := on') (om' := om') ?_ ?_ g3 (fun x hx => (QSM.uF ⟨by decide, by decide, by decide⟩ e1 hx).keep m (by decide) (by decide) (by decide) (by decide) (by decide) (by decide)) g22 g25 g26 g27 (fun j _ => by rw [g23]) (fun j _ => by rw [g24]) ?_ ?_ (by omega) hom ?_ ?_ ?_ ?_
  · rw [m.1 0 42 _ sM_0 (by decide), dg_uF_ne e1 (fun z => absurd z.2 (by decide))]
    exact f1
  · rw [m.1 0 43 _ sM_0 (by decide), dg_uF_at e1]
  · unfold dk_vo
    omega
  · rw [if_pos ht]
    exact hon
  · rw [if_pos ht]
  · by_cases z : om.toNatClampNeg = (S.2.1 26 (dp.toNatClampNeg - 1)).toInt.toNat
    · exact Or.inl z
    · exact Or.inr (Or.inr ⟨ht, (b4 (om.toNatClampNeg - 1) (by omega) (by omega)).2.2.2.2 ⟨by rw [t22]; exact hk, b24⟩⟩)
  · intro w
    rw [g23] at w
    have rt := dk_rl t.toInt
    exact ⟨fun i i1 i2 => (b4 i i1 i2).2.2.2.1 w, by omega⟩
  · intro w
    rw [g24] at w
    have rt := dk_rl t.toInt
    exact ⟨fun i i1 i2 => (b4 i i1 i2).2.2.2.2 w, by omega⟩
/-- + - * / % -/
theorem P1M.bin {l t : Int32} (h : P1M S) (f1 : S.1 0 42 = .int dp) (f2 : S.1 0 43 = .int on) (f3 : S.1 0 45 = .int om) (top : TOPM S l) (m : dg_sm shM [(0, 45)] [27] S S2) (hb : HBM S S2 t) (ht : (l.toInt = 5 ∧ (t.toInt = 31 ∨ t.toInt = 32)) ∨ (l.toInt = 6 ∧ 33 ≤ t.toInt ∧ t.toInt ≤ 35)) : P0M S2 := by
  have dd := PSM.dims h f1 f2 f3
  obtain ⟨g27, om', g3, hom⟩ := hb om f3
  obtain ⟨a1, a2, a3, a4, a5⟩ := h dp on om f1 f2 f3
  obtain ⟨b1, b2, b3, b4, b5⟩ := a1.top
  have rt := dk_rl t.toInt
  have g22 := (m.2 22 _ sM_22 (by decide)).1
  have g23 := (m.2 23 _ sM_23 (by decide)).1
  have g24 := (m.2 24 _ sM_24 (by decide)).1
  refine PSM.push h f1 f2 f3 (on' := on) (om' := om') ((m.1 0 42 _ sM_0 (by decide)).trans f1) ((m.1 0 43 _ sM_0 (by decide)).trans f2) g3 (fun x hx => hx.keep m (by decide) (by decide) (by decide) (by decide) (by decide) (by decide)) g22 (m.2 25 _ sM_25 (by decide)).1 (m.2 26 _ sM_26 (by decide)).1 g27 (fun j _ => by rw [g23]) (fun j _ => by rw [g24]) ?_ ?_ (by omega) hom ?_ ?_ ?_ ?_
  · unfold dk_vo
    omega
  · rw [if_neg (by omega)]
    omega
  · rw [if_neg (by omega)]
  · rcases top dp om f1 f3 with q | q
    · exact Or.inl q
    · right
      left
      omega
  · intro w
    rw [g23] at w
    exact ⟨fun i i1 i2 => (b4 i i1 i2).2.2.2.1 w, by omega⟩
  · intro w
    rw [g24] at w
    have := a2 rfl
    omega
/-- < > = -/
theorem P1M.cmp {l t k v : Int32} (h : P1M S) (f1 : S.1 0 42 = .int dp) (f2 : S.1 0 43 = .int on) (f3 : S.1 0 45 = .int om) (top : TOPM S l) (hl : l.toInt = 5) (m : dg_sm shM [(0, 45)] [27] S S2) (hb : HBM S S2 t) (ht : 38 ≤ t.toInt ∧ t.toInt ≤ 40) (hf : fx.toInt = dp.toInt - 1) (t22 : S.2.1 22 fx.toNatClampNeg = k) (hk : dk_ts k.toInt) (p23 : (S.2.1 23 fx.toNatClampNeg).toInt = 0) (e : S3 = dg_uf S2 23 (upd (S2.2.1 23) fx.toNatClampNeg v)) (hv : v.toInt = 1) : P0M S3 := by
  have dd := PSM.dims h f1 f2 f3
  have ef : fx.toNatClampNeg = dp.toNatClampNeg - 1 := by rw [dk_clN, dk_clN]; omega
  rw [ef] at t22 p23 e
  obtain ⟨g27, om', g3, hom⟩ := hb om f3
  obtain ⟨a1, a2, a3, a4, a5⟩ := h dp on om f1 f2 f3
  obtain ⟨b1, b2, b3, b4, b5⟩ := a1.top
  have rt := dk_rl t.toInt
  have g22 : S3.2.1 22 = S.2.1 22 := (dg_uf_ne e (by decide)).trans (m.2 22 _ sM_22 (by decide)).1
  have g23 : S3.2.1 23 = upd (S.2.1 23) (dp.toNatClampNeg - 1) v := by rw [dg_uf_at e, (m.2 23 _ sM_23 (by decide)).1]
  have g24 : S3.2.1 24 = S.2.1 24 := (dg_uf_ne e (by decide)).trans (m.2 24 _ sM_24 (by decide)).1
  have e2 := dk_clN om
  refine PSM.push h f1 f2 f3 (on' := on) (om' := om') (by rw [dg_uf_F e, m.1 0 42 _ sM_0 (by decide)]; exact f1) (by rw [dg_uf_F e, m.1 0 43 _ sM_0 (by decide)]; exact f2) (by rw [dg_uf_F e]; exact g3) (fun x hx => QSM.uf ⟨by decide, by decide, by decide⟩ e (hx.keep m (by decide) (by decide) (by decide) (by decide) (by decide) (by decide))) g22 ((dg_uf_ne e (by decide)).trans (m.2 25 _ sM_25 (by decide)).1) ((dg_uf_ne e (by decide)).trans (m.2 26 _ sM_26 (by decide)).1) (by rw [dg_uf_ne e (by decide)]; exact g27) (fun j hj => by rw [g23]; exact dk_upd_o (by omega)) (fun j _ => by rw [g24]) ?_ ?_ (by omega) hom ?_ ?_ ?_ ?_
  · unfold dk_vo
    omega
  · rw [if_neg (by omega)]
    omega
  · rw [if_neg (by omega)]
  · rcases top dp om f1 f3 with q | q
    · exact Or.inl q
    · by_cases z : om.toNatClampNeg = (S.2.1 26 (dp.toNatClampNeg - 1)).toInt.toNat
      · exact Or.inl z
      · right
        left
        have b6 := (b4 (om.toNatClampNeg - 1) (by omega) (by omega)).2.2.2.1 ⟨by rw [t22]; exact hk, p23⟩
        have r1 := dk_rl (S.2.1 27 (om.toNatClampNeg - 1)).toInt
        omega
  · intro w
    rw [g23, dk_upd_s] at w
    omega
  · intro w
    rw [g24] at w
    have := a2 rfl
    omega
/-- and, or -/
theorem P1M.andor {l t v w : Int32} (h : P1M S) (f1 : S.1 0 42 = .int dp) (f2 : S.1 0 43 = .int on) (f3 : S.1 0 45 = .int om) (top : TOPM S l) (m : dg_sm shM [(0, 45)] [27] S S2) (hb : HBM S S2 t) (ht : (l.toInt = 2 ∧ t.toInt = 41) ∨ (l.toInt = 1 ∧ t.toInt = 42)) (hf : fx.toInt = dp.toInt - 1) (e : S3 = dg_uf S2 23 (upd (S2.2.1 23) fx.toNatClampNeg v)) (e' : S4 = dg_uf S3 24 (upd (S3.2.1 24) fx.toNatClampNeg w)) : P0M S4 := by
  have dd := PSM.dims h f1 f2 f3
  have ef : fx.toNatClampNeg = dp.toNatClampNeg - 1 := by rw [dk_clN, dk_clN]; omega
  rw [ef] at e e'
  obtain ⟨g27, om', g3, hom⟩ := hb om f3
  obtain ⟨a1, a2, a3, a4, a5⟩ := h dp on om f1 f2 f3
  obtain ⟨b1, b2, b3, b4, b5⟩ := a1.top
  have rt := dk_rl t.toInt
  have g22 : S4.2.1 22 = S.2.1 22 := (dg_uf_ne e' (by decide)).trans ((dg_uf_ne e (by decide)).trans (m.2 22 _ sM_22 (by decide)).1)
  have g23 : S4.2.1 23 = upd (S.2.1 23) (dp.toNatClampNeg - 1) v := by rw [dg_uf_ne e' (by decide), dg_uf_at e, (m.2 23 _ sM_23 (by decide)).1]
  have g24 : S4.2.1 24 = upd (S.2.1 24) (dp.toNatClampNeg - 1) w := by rw [dg_uf_at e', dg_uf_ne e (by decide), (m.2 24 _ sM_24 (by decide)).1]
  have e2 := dk_clN om
  have low : ∀ i, (S.2.1 26 (dp.toNatClampNeg - 1)).toInt.toNat ≤ i → i < om.toNatClampNeg → dk_rk (S.2.1 27 i).toInt ≤ 1 := by
    intro i i1 i2
    rcases top dp om f1 f3 with q | q
    · omega
    · have b6 := (b4 i i1 i2).2.2.1 (om.toNatClampNeg - 1) (by omega) (by omega)
      omega
  refine PSM.push h f1 f2 f3 (on' := on) (om' := om') (by rw [dg_uf_F e', dg_uf_F e, m.1 0 42 _ sM_0 (by decide)]; exact f1) (by rw [dg_uf_F e', dg_uf_F e, m.1 0 43 _ sM_0 (by decide)]; exact f2) (by rw [dg_uf_F e', dg_uf_F e]; exact g3) (fun x hx => QSM.uf ⟨by decide, by decide, by decide⟩ e' (QSM.uf ⟨by decide, by decide, by decide⟩ e (hx.keep m (by decide) (by decide) (by decide) (by decide) (by decide) (by decide)))) g22 ((dg_uf_ne e' (by decide)).trans ((dg_uf_ne e (by decide)).trans (m.2 25 _ sM_25 (by decide)).1)) ((dg_uf_ne e' (by decide)).trans ((dg_uf_ne e (by decide)).trans (m.2 26 _ sM_26 (by decide)).1)) (by rw [dg_uf_ne e' (by decide), dg_uf_ne e (by decide)]; exact g27) (fun j hj => by rw [g23]; exact dk_upd_o (by omega)) (fun j hj => by rw [g24]; exact dk_upd_o (by omega)) ?_ ?_ (by omega) hom ?_ ?_ ?_ ?_
  · unfold dk_vo
    omega
  · rw [if_neg (by omega)]
    omega
  · rw [if_neg (by omega)]
  · rcases top dp om f1 f3 with q | q
    · exact Or.inl q
    · right
      left
      omega
  · intro _
    exact ⟨fun i i1 i2 => by have := low i i1 i2; omega, by omega⟩
  · intro _
    exact ⟨fun i i1 i2 => by have := low i i1 i2; omega, by omega⟩
end DKEV
