section
/-! the reference's parser: what each of its acts does to what waits -/
theorem QSM.uf {S S1 : dg_S} {r : Nat} {f : Nat → Int32} {x : Int} (hr : r ≠ 16 ∧ r ≠ 17 ∧ r ≠ 18) (e : S1 = dg_uf S r f) (h : QSM S x) : QSM S1 x := by
  intro i w cd q1 q2 q3
  rw [dg_uf_F e] at q1 q2 q3
  have := h i w cd q1 q2 q3
  unfold dk_qs dk_pc at this ⊢
  rw [dg_uf_ne e (fun z => hr.1 z.symm), dg_uf_ne e (fun z => hr.2.1 z.symm), dg_uf_ne e (fun z => hr.2.2 z.symm)]
  exact this
theorem QSM.uF {S S1 : dg_S} {k : Nat} {v : Value} {x : Int} (hk : k ≠ 34 ∧ k ≠ 35 ∧ k ≠ 36) (e : S1 = dg_uF S 0 k v) (h : QSM S x) : QSM S1 x := by
  intro i w cd q1 q2 q3
  rw [dg_uF_ne e (fun z => hk.2.1 z.2.symm)] at q1
  rw [dg_uF_ne e (fun z => hk.2.2 z.2.symm)] at q2
  rw [dg_uF_ne e (fun z => hk.1 z.2.symm)] at q3
  have := h i w cd q1 q2 q3
  unfold dk_qs dk_pc at this ⊢
  rw [dg_uF_f e, dg_uF_f e, dg_uF_f e]
  exact this
theorem dk_ex_top {fr pr : Nat → Int32} {d : Nat} (h : 1 ≤ d) : dk_ex fr pr d = dk_ex fr pr (d - 1) + dk_ex1 (fr (d - 1)).toInt (pr (d - 1)).toInt := by
  obtain ⟨k, rfl⟩ : ∃ k, d = k + 1 := ⟨d - 1, by omega⟩
  rfl
theorem dk_upd_o {f : Nat → Int32} {i j : Nat} {v : Int32} (h : j ≠ i) : upd f i v j = f j := by unfold upd; rw [if_neg h]
theorem dk_upd_s {f : Nat → Int32} {i : Nat} {v : Int32} : upd f i v i = v := by unfold upd; rw [if_pos rfl]
section DKEV
variable {S S1 S2 S3 S4 : dg_S} {dp on om fx : Int32}
/-- an operand begins -/
theorem P0M.bg0 {v : Int32} (h : P0M S) (f1 : S.1 0 42 = .int dp) (hd : 1 ≤ dp.toInt) (hf : fx.toInt = dp.toInt - 1) (hv : v.toInt = 0) (e : S1 = dg_uf S 24 (upd (S.2.1 24) fx.toNatClampNeg v)) : PBM S1 := by
  have ef : fx.toNatClampNeg = dp.toNatClampNeg - 1 := by rw [dk_clN, dk_clN]; omega
  have e1 := dk_clN dp
  rw [ef] at e
  refine ⟨fun dp' on om q1 q2 q3 => ?_, fun dp' q => ?_⟩
  · rw [dg_uf_F e] at q1 q2 q3
    cases f1.symm.trans q1
    obtain ⟨a1, a2, a3, a4, a5⟩ := h dp on om q1 q2 q3
    rw [dg_uf_at e, dg_uf_ne (a := 22) e (by decide), dg_uf_ne (a := 23) e (by decide), dg_uf_ne (a := 25) e (by decide), dg_uf_ne (a := 26) e (by decide), dg_uf_ne (a := 27) e (by decide)]
    obtain ⟨b1, b2, b3, b4, b5⟩ := a1.top
    refine ⟨a1.flag (fun _ _ => rfl) (fun _ _ => rfl) (fun j hj => dk_upd_o (by omega)) (fun _ _ => rfl) (fun i i1 i2 w => (b4 i i1 i2).2.2.2.1 w) (fun i i1 i2 w => ?_) b5, fun z => absurd z (by decide), a3, a4, a5.uf ⟨by decide, by decide, by decide⟩ e⟩
    rw [dk_upd_s] at w
    omega
  · rw [dg_uf_F e] at q
    cases f1.symm.trans q
    rw [dg_uf_at e, dk_upd_s]
    exact hv
/-- NOT -/
theorem P0M.not {on' k t : Int32} (h : P0M S) (f1 : S.1 0 42 = .int dp) (f2 : S.1 0 43 = .int on) (f3 : S.1 0 45 = .int om) (hf : fx.toInt = dp.toInt - 1) (t22 : S.2.1 22 fx.toNatClampNeg = k) (hk : dk_ts k.toInt) (b24 : (S.2.1 24 fx.toNatClampNeg).toInt = 1) (h6 : on.toInt ≠ 7) (e1 : S1 = dg_uF S 0 43 (.int on')) (hon : on'.toInt = on.toInt + 1) (m : dg_sm shM [(0, 45)] [27] S1 S2) (hb : HBM S1 S2 t) (ht : t.toInt = 43) : P0M S2 := by
  have dd := PSM.dims h f1 f2 f3
  have ef : fx.toNatClampNeg = dp.toNatClampNeg - 1 := by rw [dk_clN, dk_clN]; omega
  rw [ef] at t22 b24
  obtain ⟨g27, om', g3, hom⟩ := hb om (by rw [dg_uF_ne e1 (fun z => absurd z.2 (by decide))]; exact f3)
  rw [dg_uF_f e1] at g27
  have g22 : S2.2.1 22 = S.2.1 22 := ((m.2 22 _ sM_22 (by decide)).1).trans (dg_uF_f e1 22)
  have g23 : S2.2.1 23 = S.2.1 23 := ((m.2 23 _ sM_23 (by decide)).1).trans (dg_uF_f e1 23)
  have g24 : S2.2.1 24 = S.2.1 24 := ((m.2 24 _ sM_24 (by decide)).1).trans (dg_uF_f e1 24)
  have g25 : S2.2.1 25 = S.2.1 25 := ((m.2 25 _ sM_25 (by decide)).1).trans (dg_uF_f e1 25)
  have g26 : S2.2.1 26 = S.2.1 26 := ((m.2 26 _ sM_26 (by decide)).1).trans (dg_uF_f e1 26)
  obtain ⟨a1, a2, a3, a4, a5⟩ := h dp on om f1 f2 f3
  obtain ⟨b1, b2, b3, b4, b5⟩ := a1.top
  have e2 := dk_clN om
  refine PSM.push h f1 f2 f3 (on' := on') (om' := om') ?_ ?_ g3 (fun x hx => (QSM.uF ⟨by decide, by decide, by decide⟩ e1 hx).keep m (by decide) (by decide) (by decide) (by decide) (by decide) (by decide)) g22 g25 g26 g27 (fun j _ => by rw [g23]) (fun j _ => by rw [g24]) ?_ ?_ (by omega) hom ?_ ?_ ?_ ?_
  · rw [m.1 0 42 _ sM_0 (by decide), dg_uF_ne e1 (fun z => absurd z.2 (by decide))]
    exact f1
  · rw [m.1 0 43 _ sM_0 (by decide), dg_uF_at e1]
  · unfold dk_vo
    omega
  · rw [if_pos ht]
    exact hon
  · rw [if_pos ht]
  · by_cases z : om.toNatClampNeg = (S.2.1 26 (dp.toNatClampNeg - 1)).toInt.toNat
    · exact Or.inl z
    · exact Or.inr (Or.inr ⟨ht, (b4 (om.toNatClampNeg - 1) (by omega) (by omega)).2.2.2.2 ⟨by rw [t22]; exact hk, b24⟩⟩)
  · intro w
    rw [g23] at w
    have rt := dk_rl t.toInt
    exact ⟨fun i i1 i2 => (b4 i i1 i2).2.2.2.1 w, by omega⟩
  · intro w
    rw [g24] at w
    have rt := dk_rl t.toInt
    exact ⟨fun i i1 i2 => (b4 i i1 i2).2.2.2.2 w, by omega⟩
/-- + - * / % -/
theorem P1M.bin {l t : Int32} (h : P1M S) (f1 : S.1 0 42 = .int dp) (f2 : S.1 0 43 = .int on) (f3 : S.1 0 45 = .int om) (top : TOPM S l) (m : dg_sm shM [(0, 45)] [27] S S2) (hb : HBM S S2 t) (ht : (l.toInt = 5 ∧ (t.toInt = 31 ∨ t.toInt = 32)) ∨ (l.toInt = 6 ∧ 33 ≤ t.toInt ∧ t.toInt ≤ 35)) : P0M S2 := by
  have dd := PSM.dims h f1 f2 f3
  obtain ⟨g27, om', g3, hom⟩ := hb om f3
  obtain ⟨a1, a2, a3, a4, a5⟩ := h dp on om f1 f2 f3
  obtain ⟨b1, b2, b3, b4, b5⟩ := a1.top
  have rt := dk_rl t.toInt
  have g22 := (m.2 22 _ sM_22 (by decide)).1
  have g23 := (m.2 23 _ sM_23 (by decide)).1
  have g24 := (m.2 24 _ sM_24 (by decide)).1
  refine PSM.push h f1 f2 f3 (on' := on) (om' := om') ((m.1 0 42 _ sM_0 (by decide)).trans f1) ((m.1 0 43 _ sM_0 (by decide)).trans f2) g3 (fun x hx => hx.keep m (by decide) (by decide) (by decide) (by decide) (by decide) (by decide)) g22 (m.2 25 _ sM_25 (by decide)).1 (m.2 26 _ sM_26 (by decide)).1 g27 (fun j _ => by rw [g23]) (fun j _ => by rw [g24]) ?_ ?_ (by omega) hom ?_ ?_ ?_ ?_
  · unfold dk_vo
    omega
  · rw [if_neg (by omega)]
    omega
  · rw [if_neg (by omega)]
  · rcases top dp om f1 f3 with q | q
    · exact Or.inl q
    · right
      left
      omega
  · intro w
    rw [g23] at w
    exact ⟨fun i i1 i2 => (b4 i i1 i2).2.2.2.1 w, by omega⟩
  · intro w
    rw [g24] at w
    have := a2 rfl
    omega
/-- < > = -/
theorem P1M.cmp {l t k v : Int32} (h : P1M S) (f1 : S.1 0 42 = .int dp) (f2 : S.1 0 43 = .int on) (f3 : S.1 0 45 = .int om) (top : TOPM S l) (hl : l.toInt = 5) (m : dg_sm shM [(0, 45)] [27] S S2) (hb : HBM S S2 t) (ht : 38 ≤ t.toInt ∧ t.toInt ≤ 40) (hf : fx.toInt = dp.toInt - 1) (t22 : S.2.1 22 fx.toNatClampNeg = k) (hk : dk_ts k.toInt) (p23 : (S.2.1 23 fx.toNatClampNeg).toInt = 0) (e : S3 = dg_uf S2 23 (upd (S2.2.1 23) fx.toNatClampNeg v)) (hv : v.toInt = 1) : P0M S3 := by
  have dd := PSM.dims h f1 f2 f3
  have ef : fx.toNatClampNeg = dp.toNatClampNeg - 1 := by rw [dk_clN, dk_clN]; omega
  rw [ef] at t22 p23 e
  obtain ⟨g27, om', g3, hom⟩ := hb om f3
  obtain ⟨a1, a2, a3, a4, a5⟩ := h dp on om f1 f2 f3
  obtain ⟨b1, b2, b3, b4, b5⟩ := a1.top
  have rt := dk_rl t.toInt
  have g22 : S3.2.1 22 = S.2.1 22 := (dg_uf_ne e (by decide)).trans (m.2 22 _ sM_22 (by decide)).1
  have g23 : S3.2.1 23 = upd (S.2.1 23) (dp.toNatClampNeg - 1) v := by rw [dg_uf_at e, (m.2 23 _ sM_23 (by decide)).1]
  have g24 : S3.2.1 24 = S.2.1 24 := (dg_uf_ne e (by decide)).trans (m.2 24 _ sM_24 (by decide)).1
  have e2 := dk_clN om
  refine PSM.push h f1 f2 f3 (on' := on) (om' := om') (by rw [dg_uf_F e, m.1 0 42 _ sM_0 (by decide)]; exact f1) (by rw [dg_uf_F e, m.1 0 43 _ sM_0 (by decide)]; exact f2) (by rw [dg_uf_F e]; exact g3) (fun x hx => QSM.uf ⟨by decide, by decide, by decide⟩ e (hx.keep m (by decide) (by decide) (by decide) (by decide) (by decide) (by decide))) g22 ((dg_uf_ne e (by decide)).trans (m.2 25 _ sM_25 (by decide)).1) ((dg_uf_ne e (by decide)).trans (m.2 26 _ sM_26 (by decide)).1) (by rw [dg_uf_ne e (by decide)]; exact g27) (fun j hj => by rw [g23]; exact dk_upd_o (by omega)) (fun j _ => by rw [g24]) ?_ ?_ (by omega) hom ?_ ?_ ?_ ?_
  · unfold dk_vo
    omega
  · rw [if_neg (by omega)]
    omega
  · rw [if_neg (by omega)]
  · rcases top dp om f1 f3 with q | q
    · exact Or.inl q
    · by_cases z : om.toNatClampNeg = (S.2.1 26 (dp.toNatClampNeg - 1)).toInt.toNat
      · exact Or.inl z
      · right
        left
        have b6 := (b4 (om.toNatClampNeg - 1) (by omega) (by omega)).2.2.2.1 ⟨by rw [t22]; exact hk, p23⟩
        have r1 := dk_rl (S.2.1 27 (om.toNatClampNeg - 1)).toInt
        omega
  · intro w
    rw [g23, dk_upd_s] at w
    omega
  · intro w
    rw [g24] at w
    have := a2 rfl
    omega
/-- and, or -/
theorem P1M.andor {l t v w : Int32} (h : P1M S) (f1 : S.1 0 42 = .int dp) (f2 : S.1 0 43 = .int on) (f3 : S.1 0 45 = .int om) (top : TOPM S l) (m : dg_sm shM [(0, 45)] [27] S S2) (hb : HBM S S2 t) (ht : (l.toInt = 2 ∧ t.toInt = 41) ∨ (l.toInt = 1 ∧ t.toInt = 42)) (hf : fx.toInt = dp.toInt - 1) (e : S3 = dg_uf S2 23 (upd (S2.2.1 23) fx.toNatClampNeg v)) (e' : S4 = dg_uf S3 24 (upd (S3.2.1 24) fx.toNatClampNeg w)) : P0M S4 := by
  have dd := PSM.dims h f1 f2 f3
  have ef : fx.toNatClampNeg = dp.toNatClampNeg - 1 := by rw [dk_clN, dk_clN]; omega
  rw [ef] at e e'
  obtain ⟨g27, om', g3, hom⟩ := hb om f3
  obtain ⟨a1, a2, a3, a4, a5⟩ := h dp on om f1 f2 f3
  obtain ⟨b1, b2, b3, b4, b5⟩ := a1.top
  have rt := dk_rl t.toInt
  have g22 : S4.2.1 22 = S.2.1 22 := (dg_uf_ne e' (by decide)).trans ((dg_uf_ne e (by decide)).trans (m.2 22 _ sM_22 (by decide)).1)
  have g23 : S4.2.1 23 = upd (S.2.1 23) (dp.toNatClampNeg - 1) v := by rw [dg_uf_ne e' (by decide), dg_uf_at e, (m.2 23 _ sM_23 (by decide)).1]
  have g24 : S4.2.1 24 = upd (S.2.1 24) (dp.toNatClampNeg - 1) w := by rw [dg_uf_at e', dg_uf_ne e (by decide), (m.2 24 _ sM_24 (by decide)).1]
  have e2 := dk_clN om
  have low : ∀ i, (S.2.1 26 (dp.toNatClampNeg - 1)).toInt.toNat ≤ i → i < om.toNatClampNeg → dk_rk (S.2.1 27 i).toInt ≤ 1 := by
    intro i i1 i2
    rcases top dp om f1 f3 with q | q
    · omega
    · have b6 := (b4 i i1 i2).2.2.1 (om.toNatClampNeg - 1) (by omega) (by omega)
      omega
  refine PSM.push h f1 f2 f3 (on' := on) (om' := om') (by rw [dg_uf_F e', dg_uf_F e, m.1 0 42 _ sM_0 (by decide)]; exact f1) (by rw [dg_uf_F e', dg_uf_F e, m.1 0 43 _ sM_0 (by decide)]; exact f2) (by rw [dg_uf_F e', dg_uf_F e]; exact g3) (fun x hx => QSM.uf ⟨by decide, by decide, by decide⟩ e' (QSM.uf ⟨by decide, by decide, by decide⟩ e (hx.keep m (by decide) (by decide) (by decide) (by decide) (by decide) (by decide)))) g22 ((dg_uf_ne e' (by decide)).trans ((dg_uf_ne e (by decide)).trans (m.2 25 _ sM_25 (by decide)).1)) ((dg_uf_ne e' (by decide)).trans ((dg_uf_ne e (by decide)).trans (m.2 26 _ sM_26 (by decide)).1)) (by rw [dg_uf_ne e' (by decide), dg_uf_ne e (by decide)]; exact g27) (fun j hj => by rw [g23]; exact dk_upd_o (by omega)) (fun j hj => by rw [g24]; exact dk_upd_o (by omega)) ?_ ?_ (by omega) hom ?_ ?_ ?_ ?_
  · unfold dk_vo
    omega
  · rw [if_neg (by omega)]
    omega
  · rw [if_neg (by omega)]
  · rcases top dp om f1 f3 with q | q
    · exact Or.inl q
    · right
      left
      omega
  · intro _
    exact ⟨fun i i1 i2 => by have := low i i1 i2; omega, by omega⟩
  · intro _
    exact ⟨fun i i1 i2 => by have := low i i1 i2; omega, by omega⟩
end DKEV
end
section
/-! the same language by a row of frames: kind, phase, whether it begins, its NOTs; tag (0 on, 1 taken, 2 a fault), frames, how many brackets, token, whether an operand stands behind -/
abbrev m_F : Type := Int × Int × Bool × Nat
abbrev m_S : Type := Nat × List m_F × Nat × Nat × Bool
def m_bad : m_S := (2, [], 0, 0, false)
def m_tst (kn : Int) : Bool := decide (kn = 1) || decide (kn = 5) || decide (kn = 6)
def m_push (kn ph : Int) (nt : Nat) (R : List m_F) (o k : Nat) (q : Int) : m_S := if o = 7 then m_bad else (0, (q, 0, true, 0) :: (kn, ph, false, nt) :: R, o + 1, k, false)
def m_opA (kd vl : Nat → Int32) (kn ph : Int) (nt : Nat) (R : List m_F) (o k : Nat) : m_S :=
  if g_o kd vl 23 k then (if o = 7 then m_bad else (0, (kn, ph, true, nt + 1) :: R, o + 1, k + 1, false))
  else if g_s kd vl 91 k then m_push kn ph nt R o (k + 1) 5
  else (0, (kn, 2, false, nt) :: R, o, k + 1, true)
def m_opB (kd vl : Nat → Int32) (w : Int) (kn ph : Int) (nt : Nat) (R : List m_F) (o k : Nat) : m_S :=
  if g_s kd vl 40 k then m_push kn ph nt R o (k + 1) 2
  else if g_o kd vl 20 k then (if g_s kd vl 40 (k + 1) then m_push kn ph nt R o (k + 2) 6 else m_bad)
  else if g_o kd vl 25 k || g_o kd vl 26 k then (if g_s kd vl 40 (k + 1) then m_push kn ph nt R o (k + 2) 3 else m_bad)
  else if g_n kd k || g_fw kd vl w k then (0, (kn, ph, false, nt) :: R, o, k + 1, true) else m_bad
def m_fst (kd vl : Nat → Int32) (kn : Int) (bg : Bool) (k : Nat) : Bool := (m_tst kn && bg) && (g_o kd vl 23 k || g_s kd vl 91 k || g_o kd vl 24 k)
def m_opd (kd vl : Nat → Int32) (w : Int) (kn ph : Int) (bg : Bool) (nt : Nat) (R : List m_F) (o k : Nat) : m_S := if m_fst kd vl kn bg k then m_opA kd vl kn ph nt R o k else m_opB kd vl w kn ph nt R o k
def m_pop (kn : Int) (nt : Nat) (R : List m_F) (o k : Nat) : m_S := match R with
  | [] => m_bad
  | (a, b, c, d) :: R' => (0, (a, if kn = 5 then 2 else b, c, d) :: R', o - nt - 1, k + 1, true)
def m_go (kd vl : Nat → Int32) (kn ph : Int) (bg : Bool) (nt : Nat) (R : List m_F) (o k : Nat) : m_S :=
  if decide (ph < 2) && (g_so kd vl k || g_po kd vl k) then (0, (kn, ph, bg, nt) :: R, o, k + 1, false)
  else if m_tst kn && decide (ph = 0) then (if g_co kd vl k then (0, (kn, 1, bg, nt) :: R, o, k + 1, false) else m_bad)
  else if m_tst kn && (g_o kd vl 22 k || g_o kd vl 21 k) then (0, (kn, 0, true, 0) :: R, o - nt, k + 1, false)
  else if kn < 2 then (1, (kn, ph, bg, 0) :: R, o - nt, k, true)
  else if kn = 3 ∨ kn = 6 then (if g_s kd vl 44 k then (0, ((if kn = 3 then 4 else 3), 0, bg, 0) :: R, o - nt, k + 1, false) else m_bad)
  else if g_s kd vl (if kn = 5 then 93 else 41) k then m_pop kn nt R o k else m_bad
def m_st (kd vl : Nat → Int32) (w : Int) : m_S → m_S
  | (0, (kn, ph, bg, nt) :: R, o, k, false) => m_opd kd vl w kn ph bg nt R o k
  | (0, (kn, ph, bg, nt) :: R, o, k, true) => m_go kd vl kn ph bg nt R o k
  | s => s
def m_it (kd vl : Nat → Int32) (w : Int) : Nat → m_S → m_S
  | 0, s => s
  | n + 1, s => m_it kd vl w n (m_st kd vl w s)
def m_R (kd vl : Nat → Int32) (w : Int) (s t : m_S) : Prop := ∃ n, m_it kd vl w n s = t
section MR
variable {kd vl : Nat → Int32} {w : Int} {s t u : m_S} {kn ph : Int} {bg : Bool} {nt : Nat} {R : List m_F} {o k : Nat}
theorem m_R.rf : m_R kd vl w s s := ⟨0, rfl⟩
theorem m_it_add : ∀ (a b : Nat) (s : m_S), m_it kd vl w (a + b) s = m_it kd vl w b (m_it kd vl w a s)
  | 0, b, s => by rw [Nat.zero_add]; rfl
  | a + 1, b, s => by rw [Nat.succ_add]; exact m_it_add a b (m_st kd vl w s)
theorem m_R.tr (h1 : m_R kd vl w s t) (h2 : m_R kd vl w t u) : m_R kd vl w s u := by
  obtain ⟨a, h1⟩ := h1
  obtain ⟨b, h2⟩ := h2
  exact ⟨a + b, by rw [m_it_add, h1, h2]⟩
theorem m_R.st (e : m_st kd vl w s = t) : m_R kd vl w s t := ⟨1, e⟩
theorem m_R.go (e : m_st kd vl w s = t) (h : m_R kd vl w t u) : m_R kd vl w s u := (m_R.st e).tr h
theorem m_it_end (h : m_st kd vl w s = s) : ∀ n, m_it kd vl w n s = s
  | 0 => rfl
  | n + 1 => by show m_it kd vl w n (m_st kd vl w s) = s; rw [h]; exact m_it_end h n
/-- where it ends, it ends once -/
theorem m_R.det (h1 : m_R kd vl w s t) (h2 : m_R kd vl w s u) (e1 : m_st kd vl w t = t) (e2 : m_st kd vl w u = u) : t = u := by
  obtain ⟨a, h1⟩ := h1
  obtain ⟨b, h2⟩ := h2
  have h3 := m_it_add (kd := kd) (vl := vl) (w := w) a b s
  have h4 := m_it_add (kd := kd) (vl := vl) (w := w) b a s
  rw [h1, m_it_end e1] at h3
  rw [h2, m_it_end e2, Nat.add_comm] at h4
  exact h3.symm.trans h4
theorem m_st_f : m_st kd vl w (0, (kn, ph, bg, nt) :: R, o, k, false) = m_opd kd vl w kn ph bg nt R o k := rfl
theorem m_st_t : m_st kd vl w (0, (kn, ph, bg, nt) :: R, o, k, true) = m_go kd vl kn ph bg nt R o k := rfl
theorem m_go_op (hp : ph < 2) (h : g_so kd vl k = true ∨ g_po kd vl k = true) : m_go kd vl kn ph bg nt R o k = (0, (kn, ph, bg, nt) :: R, o, k + 1, false) := by
  unfold m_go
  rw [if_pos (by simp only [Bool.and_eq_true, decide_eq_true_eq, Bool.or_eq_true]; exact ⟨hp, h⟩)]
theorem m_noop (h : ph < 2 → g_so kd vl k = false ∧ g_po kd vl k = false) : (decide (ph < 2) && (g_so kd vl k || g_po kd vl k)) = false := by
  by_cases q : ph < 2
  · rw [(h q).1, (h q).2]; simp
  · simp [q]
theorem m_go_2 (h : ph < 2 → g_so kd vl k = false ∧ g_po kd vl k = false) : m_go kd vl 2 ph bg nt R o k = if g_s kd vl 41 k then m_pop 2 nt R o k else m_bad := by
  unfold m_go
  rw [m_noop h]
  simp [m_tst]
theorem m_go_4 (h : ph < 2 → g_so kd vl k = false ∧ g_po kd vl k = false) : m_go kd vl 4 ph bg nt R o k = if g_s kd vl 41 k then m_pop 4 nt R o k else m_bad := by
  unfold m_go
  rw [m_noop h]
  simp [m_tst]
theorem m_go_3 (h : ph < 2 → g_so kd vl k = false ∧ g_po kd vl k = false) : m_go kd vl 3 ph bg nt R o k = if g_s kd vl 44 k then (0, (4, 0, bg, 0) :: R, o - nt, k + 1, false) else m_bad := by
  unfold m_go
  rw [m_noop h]
  simp [m_tst]
theorem m_go_6 (h : ph < 2 → g_so kd vl k = false ∧ g_po kd vl k = false) (h0 : ph ≠ 0) (h1 : g_o kd vl 22 k = false) (h2 : g_o kd vl 21 k = false) : m_go kd vl 6 ph bg nt R o k = if g_s kd vl 44 k then (0, (3, 0, bg, 0) :: R, o - nt, k + 1, false) else m_bad := by
  unfold m_go
  rw [m_noop h]
  simp [m_tst, h0, h1, h2]
theorem m_go_5 (h : ph < 2 → g_so kd vl k = false ∧ g_po kd vl k = false) (h0 : ph ≠ 0) (h1 : g_o kd vl 22 k = false) (h2 : g_o kd vl 21 k = false) : m_go kd vl 5 ph bg nt R o k = if g_s kd vl 93 k then m_pop 5 nt R o k else m_bad := by
  unfold m_go
  rw [m_noop h]
  simp [m_tst, h0, h1, h2]
theorem m_go_1 (h : ph < 2 → g_so kd vl k = false ∧ g_po kd vl k = false) (h0 : ph ≠ 0) (h1 : g_o kd vl 22 k = false) (h2 : g_o kd vl 21 k = false) : m_go kd vl 1 ph bg nt R o k = (1, (1, ph, bg, 0) :: R, o - nt, k, true) := by
  unfold m_go
  rw [m_noop h]
  simp [m_tst, h0, h1, h2]
theorem m_go_0 (h : ph < 2 → g_so kd vl k = false ∧ g_po kd vl k = false) : m_go kd vl 0 ph bg nt R o k = (1, (0, ph, bg, 0) :: R, o - nt, k, true) := by
  unfold m_go
  rw [m_noop h]
  simp [m_tst]
theorem m_go_co (ht : m_tst kn = true) (h : g_so kd vl k = false ∧ g_po kd vl k = false) : m_go kd vl kn 0 bg nt R o k = if g_co kd vl k then (0, (kn, 1, bg, nt) :: R, o, k + 1, false) else m_bad := by
  unfold m_go
  rw [m_noop (fun _ => h)]
  simp [ht]
theorem m_go_and (ht : m_tst kn = true) (h : ph < 2 → g_so kd vl k = false ∧ g_po kd vl k = false) (h0 : ph ≠ 0) (h1 : g_o kd vl 22 k = true ∨ g_o kd vl 21 k = true) : m_go kd vl kn ph bg nt R o k = (0, (kn, 0, true, 0) :: R, o - nt, k + 1, false) := by
  unfold m_go
  rw [m_noop h]
  rcases h1 with h1 | h1 <;> simp [ht, h0, h1]
theorem m_pop_e {a b : Int} {c : Bool} {d : Nat} {R' : List m_F} : m_pop kn nt ((a, b, c, d) :: R') o k = (0, (a, if kn = 5 then 2 else b, c, d) :: R', o - nt - 1, k + 1, true) := rfl
theorem m_fst_f : m_fst kd vl kn false k = false := by
  unfold m_fst
  simp
end MR
/-- what the machine makes of what the descent takes: a fault where it takes nothing, else a state of which P holds -/
def m_T (kd vl : Nat → Int32) (w : Int) (a : Option Nat) (s : m_S) (P : Nat → m_S → Prop) : Prop := (a = none → m_R kd vl w s m_bad) ∧ ∀ k', a = some k' → ∃ t, m_R kd vl w s t ∧ P k' t
def m_sP (kn ph : Int) (nt : Nat) (R : List m_F) (o : Nat) : Nat → m_S → Prop := fun k' t => t = (0, (kn, ph, false, nt) :: R, o, k', true)
def m_tP (kd vl : Nat → Int32) (kn : Int) (nt : Nat) (R : List m_F) (o : Nat) : Nat → m_S → Prop := fun k' t => ∃ (ph : Int) (j : Nat), (ph = 1 ∨ ph = 2) ∧ (ph < 2 → g_so kd vl k' = false ∧ g_po kd vl k' = false) ∧ t = (0, (kn, ph, false, nt + j) :: R, o + j, k', true)
section MT
variable {kd vl : Nat → Int32} {w : Int} {s t : m_S} {kn ph : Int} {bg : Bool} {nt : Nat} {R : List m_F} {o k : Nat} {a : Option Nat} {P Q : Nat → m_S → Prop}
theorem m_T.bind {g : Nat → Option Nat} (h : m_T kd vl w a s P) (H : ∀ k1 t, a = some k1 → P k1 t → m_T kd vl w (g k1) t Q) : m_T kd vl w (a.bind g) s Q := by
  cases a with
  | none => exact ⟨fun _ => h.1 rfl, fun k' q => absurd q (by simp)⟩
  | some k1 =>
    obtain ⟨t, r, p⟩ := h.2 k1 rfl
    have b := H k1 t rfl p
    refine ⟨fun q => r.tr (b.1 q), fun k' q => ?_⟩
    obtain ⟨u, r2, q2⟩ := b.2 k' q
    exact ⟨u, r.tr r2, q2⟩
theorem m_T.st (e : m_st kd vl w s = t) (h : m_T kd vl w a t P) : m_T kd vl w a s P := by
  refine ⟨fun q => (m_R.st e).tr (h.1 q), fun k' q => ?_⟩
  obtain ⟨u, r2, q2⟩ := h.2 k' q
  exact ⟨u, (m_R.st e).tr r2, q2⟩
theorem m_T.no (h : m_R kd vl w s m_bad) : m_T kd vl w none s P := ⟨fun _ => h, fun k' q => (by cases q)⟩
theorem m_T.ok (h : P k s) : m_T kd vl w (some k) s P := ⟨fun q => (by cases q), fun k' q => by cases q; exact ⟨s, m_R.rf, h⟩⟩
theorem m_T.imp (h : m_T kd vl w a s P) (H : ∀ k t, a = some k → P k t → Q k t) : m_T kd vl w a s Q := by
  refine ⟨h.1, fun k' q => ?_⟩
  obtain ⟨u, r, p⟩ := h.2 k' q
  exact ⟨u, r, H _ _ q p⟩
theorem m_T.psh {e : Nat} {q : Int} (h0 : o = 7 → a = none) (h : o ≠ 7 → m_T kd vl w a (0, (q, 0, true, 0) :: (kn, ph, false, nt) :: R, o + 1, k, false) P) : m_T kd vl w a (m_push kn ph nt R o k q) P := by
  unfold m_push
  by_cases z : o = 7
  · rw [if_pos z, h0 z]
    exact m_T.no m_R.rf
  · rw [if_neg z]
    exact h z
theorem m_T.c2 (hx : g_so kd vl k = false ∧ g_po kd vl k = false) : m_T kd vl w (g_tk kd vl 41 k) (0, (2, 0, false, 0) :: (kn, ph, false, nt) :: R, o + 1, k, true) (m_sP kn ph nt R o) := by
  have e := (m_st_t (w := w)).trans (m_go_2 (kd := kd) (vl := vl) (ph := 0) (bg := false) (nt := 0) (R := (kn, ph, false, nt) :: R) (o := o + 1) (k := k) (fun _ => hx))
  unfold g_tk
  by_cases q : g_s kd vl 41 k = true
  · rw [if_pos q] at e ⊢
    rw [m_pop_e, if_neg (by decide)] at e
    exact m_T.st e (m_T.ok rfl)
  · rw [if_neg q] at e ⊢
    exact m_T.no (m_R.st e)
theorem m_T.c4 (hx : g_so kd vl k = false ∧ g_po kd vl k = false) : m_T kd vl w (g_tk kd vl 41 k) (0, (4, 0, false, 0) :: (kn, ph, false, nt) :: R, o + 1, k, true) (m_sP kn ph nt R o) := by
  have e := (m_st_t (w := w)).trans (m_go_4 (kd := kd) (vl := vl) (ph := 0) (bg := false) (nt := 0) (R := (kn, ph, false, nt) :: R) (o := o + 1) (k := k) (fun _ => hx))
  unfold g_tk
  by_cases q : g_s kd vl 41 k = true
  · rw [if_pos q] at e ⊢
    rw [m_pop_e, if_neg (by decide)] at e
    exact m_T.st e (m_T.ok rfl)
  · rw [if_neg q] at e ⊢
    exact m_T.no (m_R.st e)
theorem m_T.c3 (hx : g_so kd vl k = false ∧ g_po kd vl k = false) : m_T kd vl w (g_tk kd vl 44 k) (0, (3, 0, false, 0) :: R, o, k, true) (fun k' t => t = (0, (4, 0, false, 0) :: R, o, k', false)) := by
  have e := (m_st_t (w := w)).trans (m_go_3 (kd := kd) (vl := vl) (ph := 0) (bg := false) (nt := 0) (R := R) (o := o) (k := k) (fun _ => hx))
  unfold g_tk
  by_cases q : g_s kd vl 44 k = true
  · rw [if_pos q] at e ⊢
    exact m_T.st e (m_T.ok rfl)
  · rw [if_neg q] at e ⊢
    exact m_T.no (m_R.st e)
theorem m_T.c6 {j : Nat} (h0 : ph = 1 ∨ ph = 2) (hx : ph < 2 → g_so kd vl k = false ∧ g_po kd vl k = false) (h1 : g_o kd vl 22 k = false) (h2 : g_o kd vl 21 k = false) : m_T kd vl w (g_tk kd vl 44 k) (0, (6, ph, false, j) :: R, o + j, k, true) (fun k' t => t = (0, (3, 0, false, 0) :: R, o, k', false)) := by
  have e := (m_st_t (w := w)).trans (m_go_6 (kd := kd) (vl := vl) (ph := ph) (bg := false) (nt := j) (R := R) (o := o + j) (k := k) hx (by omega) h1 h2)
  rw [Nat.add_sub_cancel] at e
  unfold g_tk
  by_cases q : g_s kd vl 44 k = true
  · rw [if_pos q] at e ⊢
    exact m_T.st e (m_T.ok rfl)
  · rw [if_neg q] at e ⊢
    exact m_T.no (m_R.st e)
theorem m_T.c5 {ph0 : Int} {j : Nat} (h0 : ph = 1 ∨ ph = 2) (hx : ph < 2 → g_so kd vl k = false ∧ g_po kd vl k = false) (h1 : g_o kd vl 22 k = false) (h2 : g_o kd vl 21 k = false) : m_T kd vl w (g_tk kd vl 93 k) (0, (5, ph, false, j) :: (kn, ph0, false, nt) :: R, o + 1 + j, k, true) (fun k' t => t = (0, (kn, 2, false, nt) :: R, o, k', true)) := by
  have e := (m_st_t (w := w)).trans (m_go_5 (kd := kd) (vl := vl) (ph := ph) (bg := false) (nt := j) (R := (kn, ph0, false, nt) :: R) (o := o + 1 + j) (k := k) hx (by omega) h1 h2)
  unfold g_tk
  by_cases q : g_s kd vl 93 k = true
  · rw [if_pos q] at e ⊢
    rw [m_pop_e, Nat.add_sub_cancel, if_pos rfl] at e
    exact m_T.st e (m_T.ok rfl)
  · rw [if_neg q] at e ⊢
    exact m_T.no (m_R.st e)
/-- operands of one kind, and signs between them -/
theorem m_loop {op : Nat → Bool} {p : Nat → Option Nat} (hop : ∀ k, op k = true → g_so kd vl k = true ∨ g_po kd vl k = true) (hph : ph < 2)
    (hp : ∀ k, m_T kd vl w (p k) (0, (kn, ph, false, nt) :: R, o, k, false) (m_sP kn ph nt R o)) : ∀ (f k : Nat), m_T kd vl w (x_loop op p f k) (0, (kn, ph, false, nt) :: R, o, k, true) (m_sP kn ph nt R o)
  | 0, k => m_T.ok rfl
  | f + 1, k => by
    cases ho : op k with
    | false =>
      rw [x_loop_out ho]
      exact m_T.ok rfl
    | true =>
      have e1 : m_st kd vl w (0, (kn, ph, false, nt) :: R, o, k, true) = (0, (kn, ph, false, nt) :: R, o, k + 1, false) := by
        rw [m_st_t, m_go_op hph (hop k ho)]
      unfold x_loop
      rw [if_pos ho]
      refine m_T.st e1 ((hp (k + 1)).bind fun k1 t h1 p1 => ?_)
      have p1 : t = _ := p1
      subst p1
      exact m_loop hop hph hp f k1
theorem m_prod {p : Nat → Option Nat} (hph : ph < 2) (hp : ∀ bg k, m_fst kd vl kn bg k = false → m_T kd vl w (p k) (0, (kn, ph, bg, nt) :: R, o, k, false) (m_sP kn ph nt R o)) (bg : Bool) (k : Nat) (hf : m_fst kd vl kn bg k = false) : m_T kd vl w (x_prod kd vl p k) (0, (kn, ph, bg, nt) :: R, o, k, false) (m_sP kn ph nt R o) := by
  unfold x_prod
  refine (hp bg k hf).bind fun k1 t h1 p1 => ?_
  have p1 : t = _ := p1
  subst p1
  exact m_loop (fun _ h => Or.inr h) hph (fun k => hp false k m_fst_f) 1600 k1
theorem m_sum {p : Nat → Option Nat} (hph : ph < 2) (hp : ∀ bg k, m_fst kd vl kn bg k = false → m_T kd vl w (p k) (0, (kn, ph, bg, nt) :: R, o, k, false) (m_sP kn ph nt R o)) (bg : Bool) (k : Nat) (hf : m_fst kd vl kn bg k = false) : m_T kd vl w (x_sum kd vl p k) (0, (kn, ph, bg, nt) :: R, o, k, false) (m_sP kn ph nt R o) := by
  unfold x_sum
  refine (m_prod hph hp bg k hf).bind fun k1 t h1 p1 => ?_
  have p1 : t = _ := p1
  subst p1
  exact m_loop (fun _ h => Or.inl h) hph (fun k => m_prod hph hp false k m_fst_f) 1600 k1
/-- FACTS, and words between them -/
theorem m_loopT {op : Nat → Bool} {p : Nat → Option Nat} (ht : m_tst kn = true) (hop : ∀ k, op k = true → g_o kd vl 22 k = true ∨ g_o kd vl 21 k = true)
    (hp : ∀ k, m_T kd vl w (p k) (0, (kn, 0, true, 0) :: R, o, k, false) (m_tP kd vl kn 0 R o)) : ∀ (f k : Nat) (t : m_S), m_tP kd vl kn 0 R o k t → m_T kd vl w (x_loop op p f k) t (m_tP kd vl kn 0 R o)
  | 0, k, t, h => m_T.ok h
  | f + 1, k, t, h => by
    cases ho : op k with
    | false =>
      rw [x_loop_out ho]
      exact m_T.ok h
    | true =>
      obtain ⟨ph, j, h0, hx, rfl⟩ := h
      have e1 := (m_st_t (w := w)).trans (m_go_and (kd := kd) (vl := vl) (kn := kn) (ph := ph) (bg := false) (nt := 0 + j) (R := R) (o := o + j) (k := k) ht hx (by omega) (hop k ho))
      rw [Nat.zero_add, Nat.add_sub_cancel] at e1
      rw [Nat.zero_add]
      unfold x_loop
      rw [if_pos ho]
      exact m_T.st e1 ((hp (k + 1)).bind fun k1 t h1 p1 => m_loopT ht hop hp f k1 t p1)
theorem m_both {f : Nat → Option Nat} (ht : m_tst kn = true) (hf : ∀ k, m_T kd vl w (f k) (0, (kn, 0, true, 0) :: R, o, k, false) (m_tP kd vl kn 0 R o)) (k : Nat) : m_T kd vl w (x_both kd vl f k) (0, (kn, 0, true, 0) :: R, o, k, false) (m_tP kd vl kn 0 R o) := by
  unfold x_both
  exact (hf k).bind fun k1 t h1 p1 => m_loopT ht (fun _ h => Or.inl h) hf 1600 k1 t p1
theorem m_test {f : Nat → Option Nat} (ht : m_tst kn = true) (hf : ∀ k, m_T kd vl w (f k) (0, (kn, 0, true, 0) :: R, o, k, false) (m_tP kd vl kn 0 R o)) (k : Nat) : m_T kd vl w (x_test kd vl f k) (0, (kn, 0, true, 0) :: R, o, k, false) (m_tP kd vl kn 0 R o) := by
  unfold x_test
  exact (m_both ht hf k).bind fun k1 t h1 p1 => m_loopT ht (fun _ h => Or.inr h) (m_both ht hf) 1600 k1 t p1
end MT
def G_s (kd vl : Nat → Int32) (w : Int) (e : Nat) : Prop := ∀ (kn ph : Int) (bg : Bool) (nt : Nat) (R : List m_F) (o k : Nat), o + e = 8 → ph < 2 → m_fst kd vl kn bg k = false → m_T kd vl w ((x_lv kd vl w e).1 k) (0, (kn, ph, bg, nt) :: R, o, k, false) (m_sP kn ph nt R o)
def G_t (kd vl : Nat → Int32) (w : Int) (e : Nat) : Prop := ∀ (kn : Int) (R : List m_F) (o k : Nat), o + e = 8 → m_tst kn = true → m_T kd vl w ((x_lv kd vl w e).2.1 k) (0, (kn, 0, true, 0) :: R, o, k, false) (m_tP kd vl kn 0 R o)
def G_f (kd vl : Nat → Int32) (w : Int) (e : Nat) : Prop := ∀ (kn : Int) (nt : Nat) (R : List m_F) (o k : Nat), o + e = 8 → m_tst kn = true → m_T kd vl w ((x_lv kd vl w e).2.2 k) (0, (kn, 0, true, nt) :: R, o, k, false) (m_tP kd vl kn nt R o)
section MG
variable {kd vl : Nat → Int32} {w : Int} {N e : Nat}
theorem x_lv_so (hN : ∀ k, N ≤ k → (kd k).toInt = 0) (hN2 : N ≤ 1600) {k k' : Nat} (h : (x_lv kd vl w e).1 k = some k') : g_so kd vl k' = false ∧ g_po kd vl k' = false := by
  cases e with
  | zero => cases h
  | succ e => exact (x_sum_ex hN hN2 (fun j j' q => x_part_lt (x_lv_lt hN hN2 e).1 (x_lv_lt hN hN2 e).2.1 q) h).2
theorem x_lv_te (hN : ∀ k, N ≤ k → (kd k).toInt = 0) (hN2 : N ≤ 1600) {k k' : Nat} (h : (x_lv kd vl w e).2.1 k = some k') : g_o kd vl 21 k' = false ∧ g_o kd vl 22 k' = false := by
  cases e with
  | zero => cases h
  | succ e => exact (x_test_ex hN hN2 (x_lv_lt hN hN2 (e + 1)).2.2 h).2
theorem m_pairT (hN : ∀ k, N ≤ k → (kd k).toInt = 0) (hN2 : N ≤ 1600) (Hs : G_s kd vl w e) {kn ph : Int} {bg : Bool} {nt : Nat} {R : List m_F} {o k : Nat} (ho : o + 1 + e = 8) : m_T kd vl w (x_pair kd vl (x_lv kd vl w e).1 k) (0, (3, 0, bg, 0) :: (kn, ph, false, nt) :: R, o + 1, k, false) (m_sP kn ph nt R o) := by
  unfold x_pair
  refine (Hs 3 0 bg 0 ((kn, ph, false, nt) :: R) (o + 1) k ho (by decide) (by unfold m_fst; simp [m_tst])).bind fun k1 t h1 p1 => ?_
  have p1 : t = _ := p1
  subst p1
  refine (m_T.c3 (x_lv_so hN hN2 h1)).bind fun k2 t h2 p2 => ?_
  subst p2
  refine (Hs 4 0 false 0 ((kn, ph, false, nt) :: R) (o + 1) k2 ho (by decide) m_fst_f).bind fun k3 t h3 p3 => ?_
  have p3 : t = _ := p3
  subst p3
  exact m_T.c4 (x_lv_so hN hN2 h3)
theorem m_partT (hN : ∀ k, N ≤ k → (kd k).toInt = 0) (hN2 : N ≤ 1600) (Hs : e ≠ 0 → G_s kd vl w e) (Ht : e ≠ 0 → G_t kd vl w e) {kn ph : Int} {bg : Bool} {nt : Nat} {R : List m_F} {o k : Nat} (ho : o + (e + 1) = 8) (hf : m_fst kd vl kn bg k = false) : m_T kd vl w (x_part kd vl w (x_lv kd vl w e).1 (x_lv kd vl w e).2.1 k) (0, (kn, ph, bg, nt) :: R, o, k, false) (m_sP kn ph nt R o) := by
  have e1 : m_st kd vl w (0, (kn, ph, bg, nt) :: R, o, k, false) = m_opB kd vl w kn ph nt R o k := by
    rw [m_st_f]
    unfold m_opd
    rw [if_neg (by rw [hf]; decide)]
  refine m_T.st e1 ?_
  unfold x_part m_opB x_choice x_prs
  by_cases q1 : g_s kd vl 40 k = true
  · rw [if_pos q1, if_pos q1]
    refine m_T.psh (e := e) (fun z => ?_) (fun z => ?_)
    · have z1 : e = 0 := by omega
      subst z1
      rfl
    · refine (Hs (by omega) 2 0 true 0 ((kn, ph, false, nt) :: R) (o + 1) (k + 1) (by omega) (by decide) (by unfold m_fst; simp [m_tst])).bind fun k1 t h1 p1 => ?_
      have p1 : t = _ := p1
      subst p1
      exact m_T.c2 (x_lv_so hN hN2 h1)
  rw [if_neg q1, if_neg q1]
  by_cases q2 : g_o kd vl 20 k = true
  · rw [if_pos q2, if_pos q2]
    by_cases q5 : g_s kd vl 40 (k + 1) = true
    · rw [if_pos q5, if_pos q5]
      refine m_T.psh (e := e) (fun z => ?_) (fun z => ?_)
      · have z1 : e = 0 := by omega
        subst z1
        rfl
      · refine (Ht (by omega) 6 ((kn, ph, false, nt) :: R) (o + 1) (k + 2) (by omega) (by decide)).bind fun k1 t h1 p1 => ?_
        obtain ⟨ph1, j, h0, hx, rfl⟩ := p1
        have h2 := x_lv_te hN hN2 h1
        rw [Nat.zero_add]
        refine (m_T.c6 h0 hx h2.2 h2.1).bind fun k2 t h3 p3 => ?_
        subst p3
        exact m_pairT hN hN2 (Hs (by omega)) (by omega)
    · rw [if_neg q5, if_neg q5]
      exact m_T.no m_R.rf
  rw [if_neg q2, if_neg q2]
  by_cases q3 : (g_o kd vl 25 k || g_o kd vl 26 k) = true
  · rw [if_pos q3, if_pos q3]
    by_cases q5 : g_s kd vl 40 (k + 1) = true
    · rw [if_pos q5, if_pos q5]
      refine m_T.psh (e := e) (fun z => ?_) (fun z => ?_)
      · have z1 : e = 0 := by omega
        subst z1
        rfl
      · exact m_pairT hN hN2 (Hs (by omega)) (by omega)
    · rw [if_neg q5, if_neg q5]
      exact m_T.no m_R.rf
  rw [if_neg q3, if_neg q3]
  by_cases q4 : (g_n kd k || g_fw kd vl w k) = true
  · rw [if_pos q4, if_pos q4]
    exact m_T.ok rfl
  · rw [if_neg q4, if_neg q4]
    exact m_T.no m_R.rf
theorem m_factT (hN : ∀ k, N ≤ k → (kd k).toInt = 0) (hN2 : N ≤ 1600) (Ht : e ≠ 0 → G_t kd vl w e) (Hf : e ≠ 0 → G_f kd vl w e) (Hs : G_s kd vl w (e + 1)) {kn : Int} {nt : Nat} {R : List m_F} {o k : Nat} (ho : o + (e + 1) = 8) (ht : m_tst kn = true) : m_T kd vl w ((x_lv kd vl w (e + 1)).2.2 k) (0, (kn, 0, true, nt) :: R, o, k, false) (m_tP kd vl kn nt R o) := by
  show m_T kd vl w (x_fact kd vl (x_lv kd vl w e).2.2 (x_lv kd vl w e).2.1 (x_lv kd vl w (e + 1)).1 k) _ _
  unfold x_fact
  by_cases q1 : g_o kd vl 23 k = true
  · have e1 : m_st kd vl w (0, (kn, 0, true, nt) :: R, o, k, false) = if o = 7 then m_bad else (0, (kn, 0, true, nt + 1) :: R, o + 1, k + 1, false) := by
      rw [m_st_f]
      unfold m_opd
      rw [if_pos (by unfold m_fst; rw [ht, q1]; rfl)]
      unfold m_opA
      rw [if_pos q1]
    rw [if_pos q1]
    by_cases z : o = 7
    · rw [if_pos z] at e1
      have z1 : e = 0 := by omega
      subst z1
      exact m_T.no (m_R.st e1)
    · rw [if_neg z] at e1
      refine m_T.st e1 ((Hf (by omega) kn (nt + 1) R (o + 1) (k + 1) (by omega) ht).imp fun k' t _ p => ?_)
      obtain ⟨ph, j, h0, hx, rfl⟩ := p
      refine ⟨ph, j + 1, h0, hx, ?_⟩
      rw [show nt + 1 + j = nt + (j + 1) by omega, show o + 1 + j = o + (j + 1) by omega]
  rw [if_neg q1]
  by_cases q2 : g_s kd vl 91 k = true
  · have e1 : m_st kd vl w (0, (kn, 0, true, nt) :: R, o, k, false) = m_push kn 0 nt R o (k + 1) 5 := by
      rw [m_st_f]
      unfold m_opd
      rw [if_pos (by unfold m_fst; rw [ht, q2]; simp)]
      unfold m_opA
      rw [if_neg q1, if_pos q2]
    rw [if_pos q2]
    refine m_T.st e1 (m_T.psh (e := e) (fun z => ?_) (fun z => ?_))
    · have z1 : e = 0 := by omega
      subst z1
      rfl
    · refine (Ht (by omega) 5 ((kn, 0, false, nt) :: R) (o + 1) (k + 1) (by omega) (by decide)).bind fun k1 t h1 p1 => ?_
      obtain ⟨ph1, j, h0, hx, rfl⟩ := p1
      have h2 := x_lv_te hN hN2 h1
      rw [Nat.zero_add]
      refine (m_T.c5 h0 hx h2.2 h2.1).imp fun k' t _ p => ?_
      exact ⟨2, 0, Or.inr rfl, fun h => absurd h (by decide), p⟩
  rw [if_neg q2]
  by_cases q3 : g_o kd vl 24 k = true
  · have e1 : m_st kd vl w (0, (kn, 0, true, nt) :: R, o, k, false) = (0, (kn, 2, false, nt) :: R, o, k + 1, true) := by
      rw [m_st_f]
      unfold m_opd
      rw [if_pos (by unfold m_fst; rw [ht, q3]; simp)]
      unfold m_opA
      rw [if_neg q1, if_neg q2]
    rw [if_pos q3]
    exact m_T.st e1 (m_T.ok ⟨2, 0, Or.inr rfl, fun h => absurd h (by decide), rfl⟩)
  rw [if_neg q3]
  unfold x_comp
  refine (Hs kn 0 true nt R o k ho (by decide) (by unfold m_fst; simp [q1, q2, q3])).bind fun k1 t h1 p1 => ?_
  have p1 : t = _ := p1
  subst p1
  have e2 := (m_st_t (w := w)).trans (m_go_co (kd := kd) (vl := vl) (bg := false) (nt := nt) (R := R) (o := o) (k := k1) ht (x_lv_so hN hN2 h1))
  by_cases q5 : g_co kd vl k1 = true
  · rw [if_pos q5] at e2 ⊢
    refine m_T.st e2 ((Hs kn 1 false nt R o (k1 + 1) ho (by decide) m_fst_f).imp fun k' t h p => ?_)
    exact ⟨1, 0, Or.inl rfl, fun _ => x_lv_so hN hN2 h, p⟩
  · rw [if_neg q5] at e2 ⊢
    exact m_T.no (m_R.st e2)
theorem G_all (hN : ∀ k, N ≤ k → (kd k).toInt = 0) (hN2 : N ≤ 1600) : ∀ e : Nat, e ≠ 0 → G_s kd vl w e ∧ G_t kd vl w e ∧ G_f kd vl w e
  | 0, h => absurd rfl h
  | e + 1, _ => by
    have IH := G_all hN hN2 e
    have Hs : G_s kd vl w (e + 1) := fun kn ph bg nt R o k ho hph hf => m_sum hph (fun bg k hf => m_partT hN hN2 (fun h => (IH h).1) (fun h => (IH h).2.1) ho hf) bg k hf
    have Hf : G_f kd vl w (e + 1) := fun kn nt R o k ho ht => m_factT hN hN2 (fun h => (IH h).2.1) (fun h => (IH h).2.2) Hs ho ht
    exact ⟨Hs, fun kn R o k ho ht => m_test ht (fun k => Hf kn 0 R o k ho ht) k, Hf⟩
/-- a rule: what the descent takes, the frames take, and nothing else -/
theorem m_rule0 (hN : ∀ k, N ≤ k → (kd k).toInt = 0) (hN2 : N ≤ 1600) (k : Nat) : m_T kd vl w ((x_lv kd vl w 8).1 k) (0, [(0, 0, true, 0)], 0, k, false) (fun k' t => t = (1, [(0, 0, false, 0)], 0, k', true)) := by
  refine ⟨(((G_all hN hN2 8 (by decide)).1 0 0 true 0 [] 0 k (by decide) (by decide) (by unfold m_fst; simp [m_tst]))).1, fun k' h => ?_⟩
  obtain ⟨t, r, p⟩ := ((G_all hN hN2 8 (by decide)).1 0 0 true 0 [] 0 k (by decide) (by decide) (by unfold m_fst; simp [m_tst])).2 k' h
  have p : t = _ := p
  subst p
  exact ⟨_, r.tr (m_R.st ((m_st_t (w := w)).trans (m_go_0 (fun _ => x_lv_so hN hN2 h)))), rfl⟩
theorem m_rule1 (hN : ∀ k, N ≤ k → (kd k).toInt = 0) (hN2 : N ≤ 1600) (k : Nat) : m_T kd vl w ((x_lv kd vl w 8).2.1 k) (0, [(1, 0, true, 0)], 0, k, false) (fun k' t => ∃ ph : Int, t = (1, [(1, ph, false, 0)], 0, k', true)) := by
  have H := (G_all (kd := kd) (vl := vl) (w := w) hN hN2 8 (by decide)).2.1 1 [] 0 k (by decide) (by decide)
  refine ⟨H.1, fun k' h => ?_⟩
  obtain ⟨t, r, ph, j, h0, hx, rfl⟩ := H.2 k' h
  have h2 := x_lv_te hN hN2 h
  have e := (m_st_t (w := w)).trans (m_go_1 (kd := kd) (vl := vl) (ph := ph) (bg := false) (nt := 0 + j) (R := []) (o := 0 + j) (k := k') hx (by omega) h2.2 h2.1)
  rw [Nat.sub_self] at e
  exact ⟨_, r.tr (m_R.st e), ph, rfl⟩
end MG
end
section
/-! a text as tokens: b its bytes, n how many -/
def t_l (v : Int32) : Bool := decide (97 ≤ v.toInt) && decide (v.toInt ≤ 122)
def t_d (v : Int32) : Bool := decide (48 ≤ v.toInt) && decide (v.toInt ≤ 57)
def t_b (v : Int32) : Bool := decide (v.toInt = 32) || decide (v.toInt = 10)
def t_run (p : Nat → Bool) : Nat → Nat → Nat
  | 0, a => a
  | f + 1, a => if p a then t_run p f (a + 1) else a
def t_wd (b : Nat → Int32) (n j : Nat) : Bool := decide (j < n) && t_l (b j)
def t_nm (b : Nat → Int32) (n j : Nat) : Bool := decide (j < n) && t_d (b j)
def t_bk (b : Nat → Int32) (n j : Nat) : Bool := decide (j < n) && t_b (b j)
/-- where the next token begins -/
def t_sk (b : Nat → Int32) (n a : Nat) : Nat := t_run (t_bk b n) 1600 a
/-- where a token that begins there ends -/
def t_en (b : Nat → Int32) (n s : Nat) : Nat := if t_l (b s) then t_run (t_wd b n) 1600 s else if t_d (b s) then t_run (t_nm b n) 1600 s else s + 1
/-- where the tokens ahead of token k end -/
def t_P (b : Nat → Int32) (n : Nat) : Nat → Nat
  | 0 => 0
  | k + 1 => if t_sk b n (t_P b n k) < n then t_en b n (t_sk b n (t_P b n k)) else t_sk b n (t_P b n k)
def t_s (b : Nat → Int32) (n k : Nat) : Nat := t_sk b n (t_P b n k)
theorem t_run_ge {p : Nat → Bool} : ∀ (f a : Nat), a ≤ t_run p f a
  | 0, a => Nat.le_refl a
  | f + 1, a => by
    unfold t_run
    split
    · exact Nat.le_trans (Nat.le_succ a) (t_run_ge f (a + 1))
    · exact Nat.le_refl a
theorem t_run_in {p : Nat → Bool} : ∀ (f a j : Nat), a ≤ j → j < t_run p f a → p j = true
  | 0, a, j, h1, h2 => absurd h2 (Nat.not_lt.mpr h1)
  | f + 1, a, j, h1, h2 => by
    unfold t_run at h2
    by_cases q : p a = true
    · rw [if_pos q] at h2
      by_cases z : j = a
      · rw [z]
        exact q
      · exact t_run_in f (a + 1) j (by omega) h2
    · rw [if_neg q] at h2
      omega
theorem t_run_out {p : Nat → Bool} {n : Nat} (hp : ∀ j, p j = true → j < n) : ∀ (f a : Nat), n ≤ f + a → p (t_run p f a) = false
  | 0, a, h => by
    show p a = false
    cases q : p a with
    | false => rfl
    | true => exact absurd (hp a q) (by omega)
  | f + 1, a, h => by
    unfold t_run
    by_cases q : p a = true
    · rw [if_pos q]
      exact t_run_out hp f (a + 1) (by omega)
    · rw [if_neg q]
      cases q2 : p a with
      | false => rfl
      | true => exact absurd q2 q
/-- a run is known by its end -/
theorem t_run_eq {p : Nat → Bool} {n : Nat} (hp : ∀ j, p j = true → j < n) {f a e : Nat} (hf : n ≤ f + a) (h1 : a ≤ e) (h2 : ∀ j, a ≤ j → j < e → p j = true) (h3 : p e = false) : t_run p f a = e := by
  have o := t_run_out hp f a hf
  have g := t_run_ge (p := p) f a
  by_cases q : t_run p f a < e
  · rw [h2 _ g q] at o
    cases o
  · by_cases z : e < t_run p f a
    · rw [t_run_in f a e h1 z] at h3
      cases h3
    · omega
theorem t_wd_lt {b : Nat → Int32} {n : Nat} : ∀ j, t_wd b n j = true → j < n := fun j h => by
  unfold t_wd at h
  simp only [Bool.and_eq_true, decide_eq_true_eq] at h
  exact h.1
theorem t_nm_lt {b : Nat → Int32} {n : Nat} : ∀ j, t_nm b n j = true → j < n := fun j h => by
  unfold t_nm at h
  simp only [Bool.and_eq_true, decide_eq_true_eq] at h
  exact h.1
theorem t_bk_lt {b : Nat → Int32} {n : Nat} : ∀ j, t_bk b n j = true → j < n := fun j h => by
  unfold t_bk at h
  simp only [Bool.and_eq_true, decide_eq_true_eq] at h
  exact h.1
/-! what a token is: 0 the end, 1 an OWN WORD, 2 a NAME, 3 a NUMBER, 4 a sign, 5 a wrong one -/
def t_adj (b : Nat → Int32) (s : Nat) : Bool := decide (0 < s) && (t_l (b (s - 1)) || t_d (b (s - 1)))
def t_ch (b : Nat → Int32) (s e i : Nat) : Int := if s + i < e then (b (s + i)).toInt else 32
def t_words : List (List Int) := [[115, 101, 97, 109, 32, 32], [98, 121, 32, 32, 32, 32], [115, 104, 97, 102, 116, 32], [114, 101, 97, 99, 104, 32], [113, 117, 97, 107, 101, 32], [103, 114, 97, 100, 101, 32], [109, 105, 110, 101, 114, 32], [100, 105, 103, 32, 32, 32], [97, 116, 32, 32, 32, 32], [111, 114, 100, 101, 114, 32], [116, 117, 98, 115, 32, 32], [112, 97, 121, 115, 32, 32], [115, 112, 111, 105, 108, 115], [102, 97, 108, 108, 115, 32], [103, 101, 116, 115, 32, 32], [100, 101, 112, 116, 104, 32], [115, 104, 105, 102, 116, 32], [102, 97, 114, 32, 32, 32], [111, 112, 101, 110, 32, 32], [108, 105, 116, 32, 32, 32], [105, 102, 32, 32, 32, 32], [111, 114, 32, 32, 32, 32], [97, 110, 100, 32, 32, 32], [110, 111, 116, 32, 32, 32], [97, 108, 108, 32, 32, 32], [109, 105, 110, 32, 32, 32], [109, 97, 120, 32, 32, 32]]
def t_mt (b : Nat → Int32) (s e j : Nat) : Bool := (List.range 6).all (fun i => decide (t_ch b s e i = (t_words.getD j []).getD i 0))
def t_own (b : Nat → Int32) (s e : Nat) : Int := match (List.range 27).find? (fun j => t_mt b s e j) with
  | some j => (j : Int)
  | none => -1
def t_let (b : Nat → Int32) (s e : Nat) : Nat → Int
  | 0 => 0
  | i + 1 => 27 * t_let b s e i + (if s + i < e then (b (s + i)).toInt - 96 else 0)
def t_num (b : Nat → Int32) (s : Nat) : Nat → Int
  | 0 => 0
  | i + 1 => 10 * t_num b s i + ((b (s + i)).toInt - 48)
def t_K (b : Nat → Int32) (s e : Nat) (ad : Bool) : Int :=
  if t_l (b s) then (if 6 < e - s ∨ ad = true then 5 else if t_own b s e = -1 then 2 else 1)
  else if t_d (b s) then (if 4 < e - s ∨ ad = true then 5 else 3) else 4
/-- its number: an OWN WORD's, a NAME's letters by 27, a NUMBER's, a sign's byte, where a wrong one is wrong -/
def t_V (b : Nat → Int32) (s e : Nat) (ad : Bool) : Int :=
  if t_l (b s) then (if 6 < e - s then (s : Int) + 6 else if ad = true then (s : Int) else if t_own b s e = -1 then t_let b s e 6 else t_own b s e)
  else if t_d (b s) then (if 4 < e - s then (s : Int) + 4 else if ad = true then (s : Int) else t_num b s (e - s)) else (b s).toInt
def t_kd (b : Nat → Int32) (n k : Nat) : Int := if t_s b n k < n then t_K b (t_s b n k) (t_P b n (k + 1)) (t_adj b (t_s b n k)) else 0
def t_vl (b : Nat → Int32) (n k : Nat) : Int := if t_s b n k < n then t_V b (t_s b n k) (t_P b n (k + 1)) (t_adj b (t_s b n k)) else 0
def T_kd (b : Nat → Int32) (n k : Nat) : Int32 := Int32.ofInt (t_kd b n k)
def T_vl (b : Nat → Int32) (n k : Nat) : Int32 := Int32.ofInt (t_vl b n k)
theorem t_ofI {x : Int32} {i : Int} (h : x.toInt = i) : x = Int32.ofInt i := by
  rw [← h]
  exact (Int32.ofInt_toInt x).symm
theorem t_s_def {b : Nat → Int32} {n k : Nat} : t_s b n k = t_sk b n (t_P b n k) := rfl
theorem t_P_s {b : Nat → Int32} {n k : Nat} (h : t_s b n k < n) : t_P b n (k + 1) = t_en b n (t_s b n k) := by
  show (if t_sk b n (t_P b n k) < n then t_en b n (t_sk b n (t_P b n k)) else t_sk b n (t_P b n k)) = _
  rw [if_pos (show t_sk b n (t_P b n k) < n from h)]
  rfl
theorem t_P_e {b : Nat → Int32} {n k : Nat} (h : ¬ t_s b n k < n) : t_P b n (k + 1) = t_s b n k := by
  show (if t_sk b n (t_P b n k) < n then t_en b n (t_sk b n (t_P b n k)) else t_sk b n (t_P b n k)) = _
  rw [if_neg (show ¬ t_sk b n (t_P b n k) < n from h)]
  rfl
/-- a run ends where the text does, at the latest -/
theorem t_run_le {p : Nat → Bool} {n : Nat} (hp : ∀ j, p j = true → j < n) : ∀ (f a : Nat), a ≤ n → t_run p f a ≤ n
  | 0, a, h => h
  | f + 1, a, h => by
    unfold t_run
    by_cases q : p a = true
    · rw [if_pos q]
      exact t_run_le hp f (a + 1) (hp a q)
    · rw [if_neg q]
      exact h
theorem t_sk_ge {b : Nat → Int32} {n a : Nat} : a ≤ t_sk b n a := t_run_ge 1600 a
theorem t_sk_le {b : Nat → Int32} {n a : Nat} (h : a ≤ n) : t_sk b n a ≤ n := t_run_le t_bk_lt 1600 a h
theorem t_sk_no {b : Nat → Int32} {n a : Nat} (h : t_bk b n a = false) : t_sk b n a = a := by
  unfold t_sk
  show (if t_bk b n a = true then t_run (t_bk b n) 1599 (a + 1) else a) = a
  rw [if_neg (by rw [h]; decide)]
theorem t_sk_yes {b : Nat → Int32} {n a : Nat} (hn : n ≤ 1600) (h : t_bk b n a = true) : t_sk b n (a + 1) = t_sk b n a := by
  unfold t_sk
  have h1 : a < t_run (t_bk b n) 1600 a := by
    show a < (if t_bk b n a = true then t_run (t_bk b n) 1599 (a + 1) else a)
    rw [if_pos h]
    exact t_run_ge 1599 (a + 1)
  exact t_run_eq t_bk_lt (by omega) h1 (fun j hj hj2 => t_run_in 1600 a j (by omega) hj2) (t_run_out t_bk_lt 1600 a (by omega))
theorem t_en_gt {b : Nat → Int32} {n s : Nat} (h : s < n) : s < t_en b n s := by
  unfold t_en
  by_cases q : t_l (b s) = true
  · rw [if_pos q]
    show s < (if t_wd b n s = true then t_run (t_wd b n) 1599 (s + 1) else s)
    rw [if_pos (by unfold t_wd; rw [decide_eq_true h, q]; rfl)]
    exact t_run_ge 1599 (s + 1)
  · rw [if_neg q]
    by_cases q2 : t_d (b s) = true
    · rw [if_pos q2]
      show s < (if t_nm b n s = true then t_run (t_nm b n) 1599 (s + 1) else s)
      rw [if_pos (by unfold t_nm; rw [decide_eq_true h, q2]; rfl)]
      exact t_run_ge 1599 (s + 1)
    · rw [if_neg q2]
      exact Nat.lt_succ_self s
theorem t_en_le {b : Nat → Int32} {n s : Nat} (h : s < n) : t_en b n s ≤ n := by
  unfold t_en
  split
  · exact t_run_le t_wd_lt 1600 s (Nat.le_of_lt h)
  · split
    · exact t_run_le t_nm_lt 1600 s (Nat.le_of_lt h)
    · exact h
/-- c tokens are told: those ahead of a -/
def t_inv (b : Nat → Int32) (n : Nat) (KD VL : Nat → Int32) (c a : Nat) : Prop := c ≤ a ∧ a ≤ n ∧ t_sk b n a = t_s b n c ∧ ∀ j, j < c → KD j = T_kd b n j ∧ VL j = T_vl b n j
section TINV
variable {b KD VL KD' VL' : Nat → Int32} {n c a e : Nat} {k v : Int32}
theorem t_inv.zero : t_inv b n KD VL 0 0 := ⟨Nat.le_refl 0, Nat.zero_le n, rfl, fun j h => absurd h (Nat.not_lt_zero j)⟩
theorem t_inv.blank (h : t_inv b n KD VL c a) (hn : n ≤ 1600) (ha : a < n) (hb : t_b (b a) = true) : t_inv b n KD VL c (a + 1) := by
  obtain ⟨h1, h2, h3, h4⟩ := h
  refine ⟨by omega, ha, ?_, h4⟩
  rw [← h3]
  exact t_sk_yes hn (by unfold t_bk; rw [decide_eq_true ha, hb]; rfl)
theorem t_inv.at (h : t_inv b n KD VL c a) (ha : a < n) (hb : t_b (b a) = false) : t_s b n c = a := by
  rw [← h.2.2.1]
  exact t_sk_no (by unfold t_bk; rw [hb]; simp)
theorem t_inv.tok (h : t_inv b n KD VL c a) (ha : a < n) (hb : t_b (b a) = false) (he : e = t_en b n a) (hk : k.toInt = t_K b a e (t_adj b a)) (hv : v.toInt = t_V b a e (t_adj b a)) (eK : KD' = upd KD c k) (eV : VL' = upd VL c v) : t_inv b n KD' VL' (c + 1) e := by
  have hs := h.at ha hb
  have g := t_en_gt (b := b) ha
  have l := t_en_le (b := b) ha
  have hP : t_P b n (c + 1) = e := by rw [t_P_s (by rw [hs]; exact ha), hs, he]
  obtain ⟨h1, h2, h3, h4⟩ := h
  refine ⟨by omega, by omega, by rw [t_s_def, hP], fun j hj => ?_⟩
  rw [eK, eV]
  unfold upd
  by_cases q : j = c
  · rw [if_pos q, if_pos q, q]
    unfold T_kd T_vl t_kd t_vl
    rw [hs, hP, if_pos ha, if_pos ha]
    exact ⟨t_ofI hk, t_ofI hv⟩
  · rw [if_neg q, if_neg q]
    exact h4 j (by omega)
theorem t_inv.fin (h : t_inv b n KD VL c a) (ha : n ≤ a) (hk : k.toInt = 0) (hv : v.toInt = 0) (eK : KD' = upd KD c k) (eV : VL' = upd VL c v) : (∀ j, j ≤ c → KD' j = T_kd b n j) ∧ ∀ j, j ≤ c → VL' j = T_vl b n j := by
  obtain ⟨h1, h2, h3, h4⟩ := h
  have hs : ¬ t_s b n c < n := by
    have g := t_sk_ge (b := b) (n := n) (a := a)
    omega
  have key : ∀ j, j ≤ c → KD' j = T_kd b n j ∧ VL' j = T_vl b n j := fun j hj => by
    rw [eK, eV]
    unfold upd
    by_cases q : j = c
    · rw [if_pos q, if_pos q, q]
      unfold T_kd T_vl t_kd t_vl
      rw [if_neg hs, if_neg hs]
      exact ⟨t_ofI hk, t_ofI hv⟩
    · rw [if_neg q, if_neg q]
      exact h4 j (by omega)
  exact ⟨fun j hj => (key j hj).1, fun j hj => (key j hj).2⟩
end TINV
/-- a token takes a byte at least: none stands at n or behind -/
theorem t_P_ge {b : Nat → Int32} {n : Nat} : ∀ k : Nat, k ≤ n → k ≤ t_P b n k
  | 0, _ => Nat.zero_le _
  | k + 1, h => by
    have i := t_P_ge (b := b) (n := n) k (by omega)
    have g := t_sk_ge (b := b) (n := n) (a := t_P b n k)
    by_cases q : t_s b n k < n
    · rw [t_P_s q]
      have q2 := t_en_gt (b := b) q
      rw [t_s_def] at q2 ⊢
      omega
    · rw [t_P_e q]
      omega
theorem t_P_mono {b : Nat → Int32} {n k : Nat} : t_P b n k ≤ t_P b n (k + 1) := by
  have g := t_sk_ge (b := b) (n := n) (a := t_P b n k)
  by_cases q : t_s b n k < n
  · rw [t_P_s q]
    have q2 := t_en_gt (b := b) q
    rw [t_s_def] at q2 ⊢
    omega
  · rw [t_P_e q]
    exact g
theorem t_P_le {b : Nat → Int32} {n : Nat} : ∀ k : Nat, t_P b n k ≤ n
  | 0 => Nat.zero_le _
  | k + 1 => by
    by_cases q : t_s b n k < n
    · rw [t_P_s q]
      exact t_en_le q
    · rw [t_P_e q]
      exact t_sk_le (t_P_le k)
theorem T_kd_end {b : Nat → Int32} {n k : Nat} (h : n ≤ k) : (T_kd b n k).toInt = 0 := by
  have h1 : n ≤ t_P b n k := by
    have m : ∀ d, t_P b n n ≤ t_P b n (n + d) := fun d => by
      induction d with
      | zero => exact Nat.le_refl _
      | succ d ih => exact Nat.le_trans ih t_P_mono
    have i := t_P_ge (b := b) (n := n) n (Nat.le_refl n)
    have j := m (k - n)
    rw [show n + (k - n) = k by omega] at j
    omega
  have h2 : ¬ t_s b n k < n := by
    have g := t_sk_ge (b := b) (n := n) (a := t_P b n k)
    rw [t_s_def]
    omega
  unfold T_kd t_kd
  rw [if_neg h2]
  decide +kernel
theorem t_own_hit {b : Nat → Int32} {s e w : Nat} (hw : w < 27) (h : ∀ j, j < w → t_mt b s e j = false) (h1 : t_mt b s e w = true) : t_own b s e = (w : Int) := by
  have q : (List.range 27).find? (fun j => t_mt b s e j) = some w := List.find?_range_eq_some.mpr ⟨h1, List.mem_range.mpr hw, fun j hj => by show (!t_mt b s e j) = true; rw [h j hj]; rfl⟩
  unfold t_own
  rw [q]
theorem t_own_no {b : Nat → Int32} {s e : Nat} (h : ∀ j, j < 27 → t_mt b s e j = false) : t_own b s e = -1 := by
  have q : (List.range 27).find? (fun j => t_mt b s e j) = none := List.find?_range_eq_none.mpr fun j hj => by show (!t_mt b s e j) = true; rw [h j hj]; rfl
  unfold t_own
  rw [q]
theorem t_mt_iff {b : Nat → Int32} {s e j : Nat} : t_mt b s e j = true ↔ ∀ i, i < 6 → t_ch b s e i = (t_words.getD j []).getD i 0 := by
  unfold t_mt
  rw [List.all_eq_true]
  constructor
  · intro h i hi
    exact of_decide_eq_true (h i (List.mem_range.mpr hi))
  · intro h i hi
    exact decide_eq_true (h i (List.mem_range.mp hi))
/-- how many of the first places are alike -/
def t_sm (b : Nat → Int32) (s e j : Nat) : Nat → Nat
  | 0 => 0
  | i + 1 => t_sm b s e j i + if t_ch b s e i = (t_words.getD j []).getD i 0 then 1 else 0
theorem t_sm_le {b : Nat → Int32} {s e j : Nat} : ∀ n, t_sm b s e j n ≤ n
  | 0 => Nat.le_refl 0
  | n + 1 => by
    have h := t_sm_le (b := b) (s := s) (e := e) (j := j) n
    unfold t_sm
    split <;> omega
theorem t_sm_all {b : Nat → Int32} {s e j : Nat} : ∀ n, t_sm b s e j n = n ↔ ∀ i, i < n → t_ch b s e i = (t_words.getD j []).getD i 0
  | 0 => ⟨fun _ i hi => absurd hi (Nat.not_lt_zero i), fun _ => rfl⟩
  | n + 1 => by
    have h := t_sm_all (b := b) (s := s) (e := e) (j := j) n
    have l := t_sm_le (b := b) (s := s) (e := e) (j := j) n
    show t_sm b s e j n + (if t_ch b s e n = (t_words.getD j []).getD n 0 then 1 else 0) = n + 1 ↔ _
    by_cases q : t_ch b s e n = (t_words.getD j []).getD n 0
    · rw [if_pos q]
      constructor
      · intro a i hi
        by_cases z : i = n
        · rw [z]
          exact q
        · exact h.mp (by omega) i (by omega)
      · intro a
        have := h.mpr fun i hi => a i (by omega)
        omega
    · rw [if_neg q]
      constructor
      · intro a
        omega
      · intro a
        exact absurd (a n (by omega)) q
theorem t_mt_sm {b : Nat → Int32} {s e j : Nat} : t_mt b s e j = true ↔ t_sm b s e j 6 = 6 := t_mt_iff.trans (t_sm_all 6).symm
end
section
/-! the words of a text: what the splitter's loops know -/
section TW
variable {tb : Nat → Int32} {n : Nat}
theorem t_l_iff {v : Int32} : t_l v = true ↔ 97 ≤ v.toInt ∧ v.toInt ≤ 122 := by
  unfold t_l
  simp only [Bool.and_eq_true, decide_eq_true_eq]
theorem t_d_iff {v : Int32} : t_d v = true ↔ 48 ≤ v.toInt ∧ v.toInt ≤ 57 := by
  unfold t_d
  simp only [Bool.and_eq_true, decide_eq_true_eq]
theorem t_l_f {v : Int32} (h : ¬ (97 ≤ v.toInt ∧ v.toInt ≤ 122)) : t_l v = false := by
  cases q : t_l v with
  | false => rfl
  | true => exact absurd (t_l_iff.mp q) h
theorem t_d_f {v : Int32} (h : ¬ (48 ≤ v.toInt ∧ v.toInt ≤ 57)) : t_d v = false := by
  cases q : t_d v with
  | false => rfl
  | true => exact absurd (t_d_iff.mp q) h
theorem t_b_f {v : Int32} (h : v.toInt ≠ 32) (h2 : v.toInt ≠ 10) : t_b v = false := by
  unfold t_b
  simp [h, h2]
theorem t_b_t {v : Int32} (h : v.toInt = 32 ∨ v.toInt = 10) : t_b v = true := by
  unfold t_b
  simp [h]
/-- a run of places, one further -/
theorem tl_step {p : Nat → Prop} {a : Nat} {x x' : Int32} (h : ∀ j : Nat, a ≤ j → j < x.toNatClampNeg → p j) (hx : p x.toNatClampNeg) (hj : x'.toInt = x.toInt + 1) (h0 : 0 ≤ x.toInt) : ∀ j : Nat, a ≤ j → j < x'.toNatClampNeg → p j := fun j h1 h2 => by
  have e1 := dk_clN x
  have e2 := dk_clN x'
  by_cases q : j = x.toNatClampNeg
  · rw [q]
    exact hx
  · exact h j h1 (by omega)
theorem tl_zero {p : Nat → Prop} {x : Int32} : ∀ j : Nat, x.toNatClampNeg ≤ j → j < x.toNatClampNeg → p j := fun j h1 h2 => absurd h2 (by omega)
theorem t_wd_no {j : Nat} (h : t_l (tb j) = false) : t_wd tb n j = false := by
  unfold t_wd
  rw [h, Bool.and_false]
theorem t_nm_no {j : Nat} (h : t_d (tb j) = false) : t_nm tb n j = false := by
  unfold t_nm
  rw [h, Bool.and_false]
theorem t_wd_ge {j : Nat} (h : n ≤ j) : t_wd tb n j = false := by
  cases q : t_wd tb n j with
  | false => rfl
  | true => exact absurd (t_wd_lt j q) (by omega)
theorem t_nm_ge {j : Nat} (h : n ≤ j) : t_nm tb n j = false := by
  cases q : t_nm tb n j with
  | false => rfl
  | true => exact absurd (t_nm_lt j q) (by omega)
theorem t_en_word {s e : Nat} (hn : n ≤ 1600) (h0 : s < e) (he : e ≤ n) (h : ∀ j : Nat, s ≤ j → j < e → t_l (tb j) = true) (h3 : t_wd tb n e = false) : t_en tb n s = e := by
  unfold t_en
  rw [if_pos (h s (Nat.le_refl s) h0)]
  exact t_run_eq t_wd_lt (by omega) (Nat.le_of_lt h0) (fun j h1 h2 => by unfold t_wd; rw [h j h1 h2, decide_eq_true (by omega : j < n)]; rfl) h3
theorem t_ld {v : Int32} (h : t_d v = true) : t_l v = false := t_l_f (by have := t_d_iff.mp h; omega)
theorem t_en_numb {s e : Nat} (hn : n ≤ 1600) (h0 : s < e) (he : e ≤ n) (h : ∀ j : Nat, s ≤ j → j < e → t_d (tb j) = true) (h3 : t_nm tb n e = false) : t_en tb n s = e := by
  have h1 := h s (Nat.le_refl s) h0
  unfold t_en
  rw [if_neg (by rw [t_ld h1]; decide), if_pos h1]
  exact t_run_eq t_nm_lt (by omega) (Nat.le_of_lt h0) (fun j h1 h2 => by unfold t_nm; rw [h j h1 h2, decide_eq_true (by omega : j < n)]; rfl) h3
theorem t_en_sign {s : Nat} (h1 : t_l (tb s) = false) (h2 : t_d (tb s) = false) : t_en tb n s = s + 1 := by
  unfold t_en
  rw [if_neg (by rw [h1]; decide), if_neg (by rw [h2]; decide)]
/-- behind a word, a number no other may begin -/
theorem t_adj_en {s : Nat} (hs : s < n) (h : t_l (tb s) = true ∨ t_d (tb s) = true) : t_adj tb (t_en tb n s) = true := by
  have g := t_en_gt (b := tb) hs
  have key : t_l (tb (t_en tb n s - 1)) = true ∨ t_d (tb (t_en tb n s - 1)) = true := by
    by_cases q : t_l (tb s) = true
    · have e : t_en tb n s = t_run (t_wd tb n) 1600 s := by unfold t_en; rw [if_pos q]
      rw [e] at g ⊢
      have := t_run_in (p := t_wd tb n) 1600 s (t_run (t_wd tb n) 1600 s - 1) (by omega) (by omega)
      unfold t_wd at this
      simp only [Bool.and_eq_true] at this
      exact Or.inl this.2
    · have q2 : t_d (tb s) = true := h.resolve_left q
      have e : t_en tb n s = t_run (t_nm tb n) 1600 s := by unfold t_en; rw [if_neg q, if_pos q2]
      rw [e] at g ⊢
      have := t_run_in (p := t_nm tb n) 1600 s (t_run (t_nm tb n) 1600 s - 1) (by omega) (by omega)
      unfold t_nm at this
      simp only [Bool.and_eq_true] at this
      exact Or.inr this.2
  unfold t_adj
  rw [decide_eq_true (by omega : 0 < t_en tb n s)]
  rcases key with k | k <;> rw [k] <;> simp
theorem t_adj_no {a : Nat} (h1 : t_l (tb a) = false) (h2 : t_d (tb a) = false) : t_adj tb (a + 1) = false := by
  unfold t_adj
  rw [Nat.add_sub_cancel, h1, h2]
  simp
/-! letters, a number, an OWN WORD -/
theorem t_let_b {s e : Nat} (h : ∀ j : Nat, s ≤ j → j < e → t_l (tb j) = true) : ∀ i : Nat, 0 ≤ t_let tb s e i ∧ t_let tb s e i + 1 ≤ 27 ^ i
  | 0 => ⟨Int.le_refl 0, by show (0 : Int) + 1 ≤ 27 ^ 0; decide⟩
  | i + 1 => by
    have ih := t_let_b h i
    show 0 ≤ 27 * t_let tb s e i + (if s + i < e then (tb (s + i)).toInt - 96 else 0) ∧ 27 * t_let tb s e i + (if s + i < e then (tb (s + i)).toInt - 96 else 0) + 1 ≤ 27 ^ i * 27
    by_cases q : s + i < e
    · have := t_l_iff.mp (h (s + i) (Nat.le_add_right s i) q)
      rw [if_pos q]
      omega
    · rw [if_neg q]
      omega
theorem t_let_5 {s e : Nat} {k : Int32} (h : ∀ j : Nat, s ≤ j → j < e → t_l (tb j) = true) (h0 : 0 ≤ k.toInt) (hk : k.toInt ≤ 5) : 0 ≤ t_let tb s e k.toNatClampNeg ∧ t_let tb s e k.toNatClampNeg ≤ 14348906 := by
  have b := t_let_b h k.toNatClampNeg
  have e1 := dk_clN k
  have p : ∀ i : Nat, i ≤ 5 → (27 : Int) ^ i ≤ 14348907 := by decide
  have := p k.toNatClampNeg (by omega)
  omega
theorem t_let_go1 {s e k k' xi x z w : Int32} (hz : z.toInt = t_let tb s.toNatClampNeg e.toNatClampNeg k.toNatClampNeg) (kx : tb xi.toNatClampNeg = x) (hi : xi.toInt = s.toInt + k.toInt) (h0 : 0 ≤ s.toInt ∧ 0 ≤ k.toInt) (hs : s.toInt + k.toInt < e.toInt) (hk : k'.toInt = k.toInt + 1) (hw : w.toInt = 27 * z.toInt + (x.toInt - 96)) : w.toInt = t_let tb s.toNatClampNeg e.toNatClampNeg k'.toNatClampNeg := by
  have e1 := dk_clN s
  have e2 := dk_clN e
  have e3 := dk_clN k
  have e4 := dk_clN k'
  have e5 := dk_clN xi
  rw [show k'.toNatClampNeg = k.toNatClampNeg + 1 by omega]
  show w.toInt = 27 * t_let tb _ _ _ + (if s.toNatClampNeg + k.toNatClampNeg < e.toNatClampNeg then (tb (s.toNatClampNeg + k.toNatClampNeg)).toInt - 96 else 0)
  rw [if_pos (by omega), show s.toNatClampNeg + k.toNatClampNeg = xi.toNatClampNeg by omega, kx]
  omega
theorem t_let_go0 {s e k k' z w : Int32} (hz : z.toInt = t_let tb s.toNatClampNeg e.toNatClampNeg k.toNatClampNeg) (h0 : 0 ≤ s.toInt ∧ 0 ≤ k.toInt) (hs : ¬ s.toInt + k.toInt < e.toInt) (hk : k'.toInt = k.toInt + 1) (hw : w.toInt = 27 * z.toInt) : w.toInt = t_let tb s.toNatClampNeg e.toNatClampNeg k'.toNatClampNeg := by
  have e1 := dk_clN s
  have e2 := dk_clN e
  have e3 := dk_clN k
  have e4 := dk_clN k'
  rw [show k'.toNatClampNeg = k.toNatClampNeg + 1 by omega]
  show w.toInt = 27 * t_let tb _ _ _ + (if s.toNatClampNeg + k.toNatClampNeg < e.toNatClampNeg then (tb (s.toNatClampNeg + k.toNatClampNeg)).toInt - 96 else 0)
  rw [if_neg (by omega)]
  omega
theorem t_let_z {s e k z : Int32} (hk : k.toInt = 0) (hz : z.toInt = 0) : z.toInt = t_let tb s.toNatClampNeg e.toNatClampNeg k.toNatClampNeg := by
  have e1 := dk_clN k
  rw [show k.toNatClampNeg = 0 by omega, hz]
  rfl
theorem t_let_end {s e k z : Int32} (hz : z.toInt = t_let tb s.toNatClampNeg e.toNatClampNeg k.toNatClampNeg) (hk : k.toInt = 6) : z.toInt = t_let tb s.toNatClampNeg e.toNatClampNeg 6 := by
  have e1 := dk_clN k
  rw [hz, show k.toNatClampNeg = 6 by omega]
theorem t_num_b {s : Nat} : ∀ i : Nat, (∀ j : Nat, s ≤ j → j < s + i → t_d (tb j) = true) → 0 ≤ t_num tb s i ∧ t_num tb s i + 1 ≤ 10 ^ i
  | 0, _ => ⟨Int.le_refl 0, by show (0 : Int) + 1 ≤ 10 ^ 0; decide⟩
  | i + 1, h => by
    have ih := t_num_b i fun j h1 h2 => h j h1 (by omega)
    have := t_d_iff.mp (h (s + i) (Nat.le_add_right s i) (by omega))
    show 0 ≤ 10 * t_num tb s i + ((tb (s + i)).toInt - 48) ∧ 10 * t_num tb s i + ((tb (s + i)).toInt - 48) + 1 ≤ 10 ^ i * 10
    omega
theorem t_num_3 {s e k z : Int32} (hz : z.toInt = t_num tb s.toNatClampNeg (k.toNatClampNeg - s.toNatClampNeg)) (h : ∀ j : Nat, s.toNatClampNeg ≤ j → j < e.toNatClampNeg → t_d (tb j) = true) (h0 : 0 ≤ s.toInt ∧ s.toInt ≤ k.toInt) (h1 : k.toInt < e.toInt) (h2 : e.toInt - s.toInt ≤ 4) : 0 ≤ z.toInt ∧ z.toInt ≤ 999 := by
  have e1 := dk_clN s
  have e2 := dk_clN e
  have e3 := dk_clN k
  have b := t_num_b (tb := tb) (s := s.toNatClampNeg) (k.toNatClampNeg - s.toNatClampNeg) fun j g1 g2 => h j g1 (by omega)
  have p : ∀ i : Nat, i ≤ 3 → (10 : Int) ^ i ≤ 1000 := by decide
  have := p (k.toNatClampNeg - s.toNatClampNeg) (by omega)
  omega
theorem t_num_z {s z : Int32} (hz : z.toInt = 0) : z.toInt = t_num tb s.toNatClampNeg (s.toNatClampNeg - s.toNatClampNeg) := by
  rw [Nat.sub_self, hz]
  rfl
theorem t_num_go {s k k' x z w : Int32} (hz : z.toInt = t_num tb s.toNatClampNeg (k.toNatClampNeg - s.toNatClampNeg)) (kx : tb k.toNatClampNeg = x) (h0 : 0 ≤ s.toInt ∧ s.toInt ≤ k.toInt) (hk : k'.toInt = k.toInt + 1) (hw : w.toInt = 10 * z.toInt + x.toInt - 48) : w.toInt = t_num tb s.toNatClampNeg (k'.toNatClampNeg - s.toNatClampNeg) := by
  have e1 := dk_clN s
  have e3 := dk_clN k
  have e4 := dk_clN k'
  rw [show k'.toNatClampNeg - s.toNatClampNeg = k.toNatClampNeg - s.toNatClampNeg + 1 by omega]
  show w.toInt = 10 * t_num tb s.toNatClampNeg (k.toNatClampNeg - s.toNatClampNeg) + ((tb (s.toNatClampNeg + (k.toNatClampNeg - s.toNatClampNeg))).toInt - 48)
  rw [show s.toNatClampNeg + (k.toNatClampNeg - s.toNatClampNeg) = k.toNatClampNeg by omega, kx]
  omega
/-- a place of the constant text -/
def dk_wch (i : Int32) : Int32 := ((dk_by.getD i.toNatClampNeg 0 &&& 255).toUInt32 % 65536).toInt32
theorem t_wch {i : Int32} (h : 0 ≤ i.toInt ∧ i.toInt ≤ 161) : (dk_wch i).toInt = (t_words.getD (i.toNatClampNeg / 6) []).getD (i.toNatClampNeg % 6) 0 := by
  have all : ∀ j : Nat, j < 162 → (((dk_by.getD j 0 &&& 255).toUInt32 % 65536).toInt32).toInt = (t_words.getD (j / 6) []).getD (j % 6) 0 := by decide +kernel
  have e1 := dk_clN i
  exact all i.toNatClampNeg (by omega)
theorem t_ch_in {s e k xi x : Int32} (kx : tb xi.toNatClampNeg = x) (hi : xi.toInt = s.toInt + k.toInt) (h0 : 0 ≤ s.toInt ∧ 0 ≤ k.toInt) (hs : s.toInt + k.toInt < e.toInt) : t_ch tb s.toNatClampNeg e.toNatClampNeg k.toNatClampNeg = x.toInt := by
  have e1 := dk_clN s
  have e2 := dk_clN e
  have e3 := dk_clN k
  have e5 := dk_clN xi
  unfold t_ch
  rw [if_pos (by omega), show s.toNatClampNeg + k.toNatClampNeg = xi.toNatClampNeg by omega, kx]
theorem t_ch_out {s e k : Int32} (h0 : 0 ≤ s.toInt ∧ 0 ≤ k.toInt) (hs : ¬ s.toInt + k.toInt < e.toInt) : t_ch tb s.toNatClampNeg e.toNatClampNeg k.toNatClampNeg = (32 : Int32).toInt := by
  have e1 := dk_clN s
  have e2 := dk_clN e
  have e3 := dk_clN k
  unfold t_ch
  rw [if_neg (by omega)]
  decide +kernel
theorem t_sm_go {s e word k k' z z' lv cv i : Int32} (hr : z.toInt = ((t_sm tb s.toNatClampNeg e.toNatClampNeg word.toNatClampNeg k.toNatClampNeg : Nat) : Int)) (hch : t_ch tb s.toNatClampNeg e.toNatClampNeg k.toNatClampNeg = lv.toInt) (hi : i.toInt = 6 * word.toInt + k.toInt) (hc : cv = dk_wch i) (h0 : 0 ≤ word.toInt ∧ word.toInt ≤ 26 ∧ 0 ≤ k.toInt ∧ k.toInt ≤ 5) (hk : k'.toInt = k.toInt + 1) (hs : lv.toInt = cv.toInt ∧ z'.toInt = z.toInt + 1 ∨ lv.toInt ≠ cv.toInt ∧ z'.toInt = z.toInt) : z'.toInt = ((t_sm tb s.toNatClampNeg e.toNatClampNeg word.toNatClampNeg k'.toNatClampNeg : Nat) : Int) := by
  have e2 := dk_clN word
  have e3 := dk_clN k
  have e4 := dk_clN k'
  have e5 := dk_clN i
  have hw := t_wch (i := i) (by omega)
  rw [show i.toNatClampNeg / 6 = word.toNatClampNeg by omega, show i.toNatClampNeg % 6 = k.toNatClampNeg by omega, ← hc] at hw
  rw [show k'.toNatClampNeg = k.toNatClampNeg + 1 by omega]
  show z'.toInt = ((t_sm tb s.toNatClampNeg e.toNatClampNeg word.toNatClampNeg k.toNatClampNeg + (if t_ch tb s.toNatClampNeg e.toNatClampNeg k.toNatClampNeg = (t_words.getD word.toNatClampNeg []).getD k.toNatClampNeg 0 then 1 else 0) : Nat) : Int)
  rw [hch, ← hw]
  rcases hs with ⟨a, b⟩ | ⟨a, b⟩
  · rw [if_pos a]
    omega
  · rw [if_neg a]
    omega
theorem t_sm_z {s e word k z : Int32} (hz : z.toInt = 0) (hk : k.toInt = 0) : z.toInt = ((t_sm tb s.toNatClampNeg e.toNatClampNeg word.toNatClampNeg k.toNatClampNeg : Nat) : Int) := by
  have e1 := dk_clN k
  rw [show k.toNatClampNeg = 0 by omega, hz]
  rfl
theorem t_sm_end {s e word k z : Int32} (hr : z.toInt = ((t_sm tb s.toNatClampNeg e.toNatClampNeg word.toNatClampNeg k.toNatClampNeg : Nat) : Int)) (hk : k.toInt = 6) : z.toInt = ((t_sm tb s.toNatClampNeg e.toNatClampNeg word.toNatClampNeg 6 : Nat) : Int) := by
  have e2 := dk_clN k
  rw [hr, show k.toNatClampNeg = 6 by omega]
theorem t_own_hit32 {s e word z : Int32} (ro : ∀ j : Nat, j < word.toNatClampNeg → t_mt tb s.toNatClampNeg e.toNatClampNeg j = false) (hr : z.toInt = ((t_sm tb s.toNatClampNeg e.toNatClampNeg word.toNatClampNeg 6 : Nat) : Int)) (hz : z.toInt = 6) (hw : 0 ≤ word.toInt ∧ word.toInt ≤ 26) : word.toInt = t_own tb s.toNatClampNeg e.toNatClampNeg := by
  have e1 := dk_clN word
  rw [t_own_hit (w := word.toNatClampNeg) (by omega) ro (t_mt_sm.mpr (by omega))]
  omega
theorem t_own_next {s e word word' z : Int32} (ro : ∀ j : Nat, j < word.toNatClampNeg → t_mt tb s.toNatClampNeg e.toNatClampNeg j = false) (hr : z.toInt = ((t_sm tb s.toNatClampNeg e.toNatClampNeg word.toNatClampNeg 6 : Nat) : Int)) (hz : z.toInt ≠ 6) (hw : 0 ≤ word.toInt) (hj : word'.toInt = word.toInt + 1) : ∀ j : Nat, j < word'.toNatClampNeg → t_mt tb s.toNatClampNeg e.toNatClampNeg j = false := fun j h => by
  have e1 := dk_clN word
  have e3 := dk_clN word'
  by_cases q : j = word.toNatClampNeg
  · rw [q]
    cases z2 : t_mt tb s.toNatClampNeg e.toNatClampNeg word.toNatClampNeg with
    | false => rfl
    | true =>
      have := t_mt_sm.mp z2
      omega
  · exact ro j (by omega)
theorem t_own_none {s e word r : Int32} (ro : ∀ j : Nat, j < word.toNatClampNeg → t_mt tb s.toNatClampNeg e.toNatClampNeg j = false) (hw : 27 ≤ word.toInt) (hr : r.toInt = -1) : r.toInt = t_own tb s.toNatClampNeg e.toNatClampNeg := by
  have e1 := dk_clN word
  rw [t_own_no fun j hj => ro j (by omega), hr]
/-! what a token is -/
theorem t_K_wl {s e v pe : Int32} (h : t_l (tb s.toNatClampNeg) = true) (h0 : 0 ≤ s.toInt) (h1 : s.toInt < e.toInt) (hv1 : 6 < e.toInt - s.toInt → v.toInt = s.toInt + 6) (hv2 : ¬ 6 < e.toInt - s.toInt → v.toInt = s.toInt) (hw : 6 < e.toInt - s.toInt ∨ s.toInt = pe.toInt) : (5 : Int32).toInt = t_K tb s.toNatClampNeg e.toNatClampNeg (decide (pe.toInt = s.toInt)) ∧ v.toInt = t_V tb s.toNatClampNeg e.toNatClampNeg (decide (pe.toInt = s.toInt)) := by
  have e1 := dk_clN s
  have e2 := dk_clN e
  unfold t_K t_V
  rw [if_pos h, if_pos h]
  by_cases q : 6 < e.toNatClampNeg - s.toNatClampNeg
  · rw [if_pos (Or.inl q), if_pos q]
    exact ⟨by decide +kernel, by omega⟩
  · have q2 : pe.toInt = s.toInt := by omega
    have q3 : decide (pe.toInt = s.toInt) = true := decide_eq_true q2
    rw [if_pos (Or.inr q3), if_neg q, if_pos q3]
    exact ⟨by decide +kernel, by omega⟩
theorem t_K_wd {s e v pe : Int32} (h : t_d (tb s.toNatClampNeg) = true) (h0 : 0 ≤ s.toInt) (h1 : s.toInt < e.toInt) (hv1 : 4 < e.toInt - s.toInt → v.toInt = s.toInt + 4) (hv2 : ¬ 4 < e.toInt - s.toInt → v.toInt = s.toInt) (hw : 4 < e.toInt - s.toInt ∨ s.toInt = pe.toInt) : (5 : Int32).toInt = t_K tb s.toNatClampNeg e.toNatClampNeg (decide (pe.toInt = s.toInt)) ∧ v.toInt = t_V tb s.toNatClampNeg e.toNatClampNeg (decide (pe.toInt = s.toInt)) := by
  have e1 := dk_clN s
  have e2 := dk_clN e
  unfold t_K t_V
  have hl : ¬ t_l (tb s.toNatClampNeg) = true := by rw [t_ld h]; decide
  rw [if_neg hl, if_neg hl, if_pos h, if_pos h]
  by_cases q : 4 < e.toNatClampNeg - s.toNatClampNeg
  · rw [if_pos (Or.inl q), if_pos q]
    exact ⟨by decide +kernel, by omega⟩
  · have q2 : pe.toInt = s.toInt := by omega
    have q3 : decide (pe.toInt = s.toInt) = true := decide_eq_true q2
    rw [if_pos (Or.inr q3), if_neg q, if_pos q3]
    exact ⟨by decide +kernel, by omega⟩
theorem t_K_name {s e v o pe : Int32} (h : t_l (tb s.toNatClampNeg) = true) (h0 : 0 ≤ s.toInt) (h1 : s.toInt < e.toInt) (hw : ¬ (6 < e.toInt - s.toInt ∨ s.toInt = pe.toInt)) (ho : o.toInt = t_own tb s.toNatClampNeg e.toNatClampNeg) (ho1 : o.toInt = -1) (hv : v.toInt = t_let tb s.toNatClampNeg e.toNatClampNeg 6) : (2 : Int32).toInt = t_K tb s.toNatClampNeg e.toNatClampNeg (decide (pe.toInt = s.toInt)) ∧ v.toInt = t_V tb s.toNatClampNeg e.toNatClampNeg (decide (pe.toInt = s.toInt)) := by
  have e1 := dk_clN s
  have e2 := dk_clN e
  have q3 : ¬ decide (pe.toInt = s.toInt) = true := by rw [decide_eq_true_eq]; omega
  have q4 : ¬ (6 < e.toNatClampNeg - s.toNatClampNeg ∨ decide (pe.toInt = s.toInt) = true) := by rintro (a | a); omega; exact q3 a
  unfold t_K t_V
  have q5 : ¬ 6 < e.toNatClampNeg - s.toNatClampNeg := by omega
  have q6 : t_own tb s.toNatClampNeg e.toNatClampNeg = -1 := by omega
  rw [if_pos h, if_pos h, if_neg q4, if_neg q5, if_neg q3, if_pos q6, if_pos q6]
  exact ⟨by decide +kernel, hv⟩
theorem t_K_own {s e o pe : Int32} (h : t_l (tb s.toNatClampNeg) = true) (h0 : 0 ≤ s.toInt) (h1 : s.toInt < e.toInt) (hw : ¬ (6 < e.toInt - s.toInt ∨ s.toInt = pe.toInt)) (ho : o.toInt = t_own tb s.toNatClampNeg e.toNatClampNeg) (ho1 : o.toInt ≠ -1) : (1 : Int32).toInt = t_K tb s.toNatClampNeg e.toNatClampNeg (decide (pe.toInt = s.toInt)) ∧ o.toInt = t_V tb s.toNatClampNeg e.toNatClampNeg (decide (pe.toInt = s.toInt)) := by
  have e1 := dk_clN s
  have e2 := dk_clN e
  have q3 : ¬ decide (pe.toInt = s.toInt) = true := by rw [decide_eq_true_eq]; omega
  have q4 : ¬ (6 < e.toNatClampNeg - s.toNatClampNeg ∨ decide (pe.toInt = s.toInt) = true) := by rintro (a | a); omega; exact q3 a
  unfold t_K t_V
  have q5 : ¬ 6 < e.toNatClampNeg - s.toNatClampNeg := by omega
  have q6 : ¬ t_own tb s.toNatClampNeg e.toNatClampNeg = -1 := by omega
  rw [if_pos h, if_pos h, if_neg q4, if_neg q5, if_neg q3, if_neg q6, if_neg q6]
  exact ⟨by decide +kernel, ho⟩
theorem t_K_num {s e k v pe : Int32} (h : t_d (tb s.toNatClampNeg) = true) (h0 : 0 ≤ s.toInt) (h1 : s.toInt < e.toInt) (hw : ¬ (4 < e.toInt - s.toInt ∨ s.toInt = pe.toInt)) (hv : v.toInt = t_num tb s.toNatClampNeg (k.toNatClampNeg - s.toNatClampNeg)) (hk : k.toInt = e.toInt) : (3 : Int32).toInt = t_K tb s.toNatClampNeg e.toNatClampNeg (decide (pe.toInt = s.toInt)) ∧ v.toInt = t_V tb s.toNatClampNeg e.toNatClampNeg (decide (pe.toInt = s.toInt)) := by
  have e1 := dk_clN s
  have e2 := dk_clN e
  have e3 := dk_clN k
  have q3 : ¬ decide (pe.toInt = s.toInt) = true := by rw [decide_eq_true_eq]; omega
  have q4 : ¬ (4 < e.toNatClampNeg - s.toNatClampNeg ∨ decide (pe.toInt = s.toInt) = true) := by rintro (a | a); omega; exact q3 a
  unfold t_K t_V
  have q5 : ¬ 4 < e.toNatClampNeg - s.toNatClampNeg := by omega
  have hl : ¬ t_l (tb s.toNatClampNeg) = true := by rw [t_ld h]; decide
  rw [if_neg hl, if_neg hl, if_pos h, if_pos h, if_neg q4, if_neg q5, if_neg q3]
  refine ⟨by decide +kernel, ?_⟩
  rw [hv, show k.toNatClampNeg = e.toNatClampNeg by omega]
theorem t_K_sign {s e : Nat} {v : Int32} {ad : Bool} (hv : tb s = v) (h1 : t_l v = false) (h2 : t_d v = false) : (4 : Int32).toInt = t_K tb s e ad ∧ v.toInt = t_V tb s e ad := by
  unfold t_K t_V
  have h3 : ¬ t_l v = true := by rw [h1]; decide
  have h4 : ¬ t_d v = true := by rw [h2]; decide
  rw [hv, if_neg h3, if_neg h3, if_neg h4, if_neg h4]
  exact ⟨by decide +kernel, rfl⟩
/-! the splitter's loop -/
theorem t_ad32 {pe a : Int32} (h : pe.toInt = a.toInt ↔ t_adj tb a.toNatClampNeg = true) : t_adj tb a.toNatClampNeg = decide (pe.toInt = a.toInt) := by
  by_cases q : pe.toInt = a.toInt
  · rw [decide_eq_true q, h.mp q]
  · rw [decide_eq_false q]
    cases z : t_adj tb a.toNatClampNeg with
    | false => rfl
    | true => exact absurd (h.mpr z) q
variable {KD VL KD' VL' : Nat → Int32}
theorem t_inv_z {c a : Int32} (hc : c.toInt = 0) (ha : a.toInt = 0) : t_inv tb n KD VL c.toNatClampNeg a.toNatClampNeg := by
  have e1 := dk_clN c
  have e2 := dk_clN a
  rw [show c.toNatClampNeg = 0 by omega, show a.toNatClampNeg = 0 by omega]
  exact t_inv.zero
theorem t_inv_tok {c c' a e k v pe : Int32} (h : t_inv tb n KD VL c.toNatClampNeg a.toNatClampNeg) (ha : a.toNatClampNeg < n) (hb : t_b (tb a.toNatClampNeg) = false) (had : pe.toInt = a.toInt ↔ t_adj tb a.toNatClampNeg = true) (he : t_en tb n a.toNatClampNeg = e.toNatClampNeg) (hkv : k.toInt = t_K tb a.toNatClampNeg e.toNatClampNeg (decide (pe.toInt = a.toInt)) ∧ v.toInt = t_V tb a.toNatClampNeg e.toNatClampNeg (decide (pe.toInt = a.toInt))) (eK : KD' = upd KD c.toNatClampNeg k) (eV : VL' = upd VL c.toNatClampNeg v) (hc : c'.toInt = c.toInt + 1) (h0 : 0 ≤ c.toInt) : t_inv tb n KD' VL' c'.toNatClampNeg e.toNatClampNeg := by
  have e1 := dk_clN c
  have e2 := dk_clN c'
  rw [show c'.toNatClampNeg = c.toNatClampNeg + 1 by omega]
  rw [← t_ad32 had] at hkv
  exact h.tok ha hb he.symm hkv.1 hkv.2 eK eV
theorem t_inv_blank {c a a' : Int32} (h : t_inv tb n KD VL c.toNatClampNeg a.toNatClampNeg) (hn : n ≤ 1600) (ha : a.toNatClampNeg < n) (hb : t_b (tb a.toNatClampNeg) = true) (hj : a'.toInt = a.toInt + 1) (h0 : 0 ≤ a.toInt) (eK : KD' = KD) (eV : VL' = VL) : t_inv tb n KD' VL' c.toNatClampNeg a'.toNatClampNeg := by
  have e1 := dk_clN a
  have e2 := dk_clN a'
  rw [eK, eV, show a'.toNatClampNeg = a.toNatClampNeg + 1 by omega]
  exact h.blank hn ha hb
theorem t_adj_nx {a a' pe : Int32} (h1 : t_l (tb a.toNatClampNeg) = false) (h2 : t_d (tb a.toNatClampNeg) = false) (hj : a'.toInt = a.toInt + 1) (h0 : 0 ≤ a.toInt) (hp : pe.toInt ≤ a.toInt) : pe.toInt = a'.toInt ↔ t_adj tb a'.toNatClampNeg = true := by
  have e1 := dk_clN a
  have e2 := dk_clN a'
  rw [show a'.toNatClampNeg = a.toNatClampNeg + 1 by omega, t_adj_no h1 h2]
  exact ⟨fun q => absurd q (by omega), fun q => absurd q (by decide)⟩
theorem t_adj_pl {a e pe : Int32} (ha : a.toNatClampNeg < n) (h : t_l (tb a.toNatClampNeg) = true ∨ t_d (tb a.toNatClampNeg) = true) (he : t_en tb n a.toNatClampNeg = e.toNatClampNeg) (hp : pe.toInt = e.toInt) : pe.toInt = e.toInt ↔ t_adj tb e.toNatClampNeg = true := by
  rw [← he]
  exact ⟨fun _ => t_adj_en ha h, fun _ => hp⟩
theorem t_adj_0 {pe a : Int32} (hp : pe.toInt = -1) (ha : a.toInt = 0) : pe.toInt = a.toInt ↔ t_adj tb a.toNatClampNeg = true := by
  have e2 := dk_clN a
  rw [show a.toNatClampNeg = 0 by omega]
  exact ⟨fun q => absurd q (by omega), fun q => by cases q⟩
end TW
end
section
/-! words of the reference: letters by 256 in a long; and what its next sign is, as a token -/
theorem m_nat {x : Int64} (h : 0 ≤ x.toInt) : x.toInt = ((x.toBitVec.toNat : Nat) : Int) := by
  have e : x.toInt = x.toBitVec.toInt := rfl
  rw [e] at h ⊢
  rw [BitVec.toInt_eq_toNat_cond] at h ⊢
  split
  · rfl
  · rename_i q
    rw [if_neg q] at h
    have := x.toBitVec.isLt
    omega
theorem m_lor {w : Int64} {x : Int32} (h0 : 0 ≤ w.toInt) (h1 : w.toInt < 1099511627776) (hx : 0 ≤ x.toInt ∧ x.toInt ≤ 255) : ((w <<< ((8 : Int32).toInt64 &&& 63)) ||| x.toInt64).toInt = 256 * w.toInt + x.toInt := by
  have e1 : ((8 : Int32).toInt64 &&& 63) = (8 : Int64) := by decide +kernel
  have e3 : ((8 : Int64).toBitVec.smod 64) = 8#64 := by decide +kernel
  have hw := m_nat h0
  have ex : x.toInt64.toInt = x.toInt := Int32.toInt_toInt64 x
  have hx2 := m_nat (x := x.toInt64) (by omega)
  have e4 : ((w <<< (8 : Int64)) ||| x.toInt64).toBitVec = (w.toBitVec <<< ((8 : Int64).toBitVec.smod 64)) ||| x.toInt64.toBitVec := rfl
  have e5 : ((w <<< (8 : Int64)) ||| x.toInt64).toBitVec.toNat = w.toBitVec.toNat * 256 + x.toInt64.toBitVec.toNat := by
    rw [e4, e3, BitVec.toNat_or, BitVec.shiftLeft_eq', BitVec.toNat_shiftLeft, show (8#64).toNat = 8 from rfl, Nat.mod_eq_of_lt (by rw [Nat.shiftLeft_eq]; omega), ← Nat.shiftLeft_add_eq_or_of_lt (by omega), Nat.shiftLeft_eq]
  rw [e1]
  have e6 : ((w <<< (8 : Int64)) ||| x.toInt64).toInt = ((w <<< (8 : Int64)) ||| x.toInt64).toBitVec.toInt := rfl
  rw [e6, BitVec.toInt_eq_toNat_cond, if_pos (by rw [e5]; omega), e5]
  omega
def m_wc (tb : Nat → Int32) (s e i : Nat) : Int := if s + i < e then (tb (s + i)).toInt - 96 else 0
def m_f27 (c0 c1 c2 c3 c4 c5 : Int) : Int := 14348907 * c0 + 531441 * c1 + 19683 * c2 + 729 * c3 + 27 * c4 + c5
theorem m_let27 {tb : Nat → Int32} {s e : Nat} : t_let tb s e 6 = m_f27 (m_wc tb s e 0) (m_wc tb s e 1) (m_wc tb s e 2) (m_wc tb s e 3) (m_wc tb s e 4) (m_wc tb s e 5) := by
  have h : t_let tb s e 6 = 27 * (27 * (27 * (27 * (27 * (27 * 0 + m_wc tb s e 0) + m_wc tb s e 1) + m_wc tb s e 2) + m_wc tb s e 3) + m_wc tb s e 4) + m_wc tb s e 5 := rfl
  rw [h]
  unfold m_f27
  omega
def m_ap (p d : Int) : Int := if d = 0 then p else 256 * p + (d + 96)
/-- a name's letters by 27, brought to bytes -/
def m_WF (v : Int) : Int := m_ap (m_ap (m_ap (m_ap (m_ap (m_ap 0 (v / 14348907)) (v / 531441 % 27)) (v / 19683 % 27)) (v / 729 % 27)) (v / 27 % 27)) (v % 27)
/-- and back -/
def m_WG (p : Int) : Int :=
  if p < 256 then m_f27 (p - 96) 0 0 0 0 0
  else if p < 65536 then m_f27 (p / 256 - 96) (p % 256 - 96) 0 0 0 0
  else if p < 16777216 then m_f27 (p / 65536 - 96) (p / 256 % 256 - 96) (p % 256 - 96) 0 0 0
  else if p < 4294967296 then m_f27 (p / 16777216 - 96) (p / 65536 % 256 - 96) (p / 256 % 256 - 96) (p % 256 - 96) 0 0
  else if p < 1099511627776 then m_f27 (p / 4294967296 - 96) (p / 16777216 % 256 - 96) (p / 65536 % 256 - 96) (p / 256 % 256 - 96) (p % 256 - 96) 0
  else m_f27 (p / 1099511627776 - 96) (p / 4294967296 % 256 - 96) (p / 16777216 % 256 - 96) (p / 65536 % 256 - 96) (p / 256 % 256 - 96) (p % 256 - 96)
theorem m_dig {c0 c1 c2 c3 c4 c5 : Int} (h0 : 0 ≤ c0 ∧ c0 ≤ 26) (h1 : 0 ≤ c1 ∧ c1 ≤ 26) (h2 : 0 ≤ c2 ∧ c2 ≤ 26) (h3 : 0 ≤ c3 ∧ c3 ≤ 26) (h4 : 0 ≤ c4 ∧ c4 ≤ 26) (h5 : 0 ≤ c5 ∧ c5 ≤ 26) : m_WF (m_f27 c0 c1 c2 c3 c4 c5) = m_ap (m_ap (m_ap (m_ap (m_ap (m_ap 0 c0) c1) c2) c3) c4) c5 := by
  have g0 : m_f27 c0 c1 c2 c3 c4 c5 / 14348907 = c0 := by unfold m_f27; omega
  have g1 : m_f27 c0 c1 c2 c3 c4 c5 / 531441 % 27 = c1 := by unfold m_f27; omega
  have g2 : m_f27 c0 c1 c2 c3 c4 c5 / 19683 % 27 = c2 := by unfold m_f27; omega
  have g3 : m_f27 c0 c1 c2 c3 c4 c5 / 729 % 27 = c3 := by unfold m_f27; omega
  have g4 : m_f27 c0 c1 c2 c3 c4 c5 / 27 % 27 = c4 := by unfold m_f27; omega
  have g5 : m_f27 c0 c1 c2 c3 c4 c5 % 27 = c5 := by unfold m_f27; omega
  unfold m_WF
  rw [g0, g1, g2, g3, g4, g5]
theorem m_f27_inj {c0 c1 c2 c3 c4 c5 d0 d1 d2 d3 d4 d5 : Int} (h0 : 0 ≤ c0 ∧ c0 ≤ 26) (h1 : 0 ≤ c1 ∧ c1 ≤ 26) (h2 : 0 ≤ c2 ∧ c2 ≤ 26) (h3 : 0 ≤ c3 ∧ c3 ≤ 26) (h4 : 0 ≤ c4 ∧ c4 ≤ 26) (h5 : 0 ≤ c5 ∧ c5 ≤ 26) (k0 : 0 ≤ d0 ∧ d0 ≤ 26) (k1 : 0 ≤ d1 ∧ d1 ≤ 26) (k2 : 0 ≤ d2 ∧ d2 ≤ 26) (k3 : 0 ≤ d3 ∧ d3 ≤ 26) (k4 : 0 ≤ d4 ∧ d4 ≤ 26) (k5 : 0 ≤ d5 ∧ d5 ≤ 26) (e : m_f27 c0 c1 c2 c3 c4 c5 = m_f27 d0 d1 d2 d3 d4 d5) : c0 = d0 ∧ c1 = d1 ∧ c2 = d2 ∧ c3 = d3 ∧ c4 = d4 ∧ c5 = d5 := by
  unfold m_f27 at e
  have a0 : c0 = d0 := by omega
  have a1 : c1 = d1 := by omega
  have a2 : c2 = d2 := by omega
  have a3 : c3 = d3 := by omega
  have a4 : c4 = d4 := by omega
  exact ⟨a0, a1, a2, a3, a4, by omega⟩
def m_pk (tb : Nat → Int32) (s : Nat) : Nat → Int
  | 0 => 0
  | i + 1 => 256 * m_pk tb s i + (tb (s + i)).toInt
section MT9
variable {tb : Nat → Int32} {s e n : Nat}
theorem m_wc_b (h : ∀ j : Nat, s ≤ j → j < e → t_l (tb j) = true) (i : Nat) : 0 ≤ m_wc tb s e i ∧ m_wc tb s e i ≤ 26 := by
  unfold m_wc
  by_cases q : s + i < e
  · have := t_l_iff.mp (h (s + i) (Nat.le_add_right s i) q)
    rw [if_pos q]
    omega
  · rw [if_neg q]
    omega
theorem m_wc_in (h : ∀ j : Nat, s ≤ j → j < e → t_l (tb j) = true) {i : Nat} (q : s + i < e) : m_wc tb s e i = (tb (s + i)).toInt - 96 ∧ 97 ≤ (tb (s + i)).toInt ∧ (tb (s + i)).toInt ≤ 122 := by
  have := t_l_iff.mp (h (s + i) (Nat.le_add_right s i) q)
  unfold m_wc
  rw [if_pos q]
  exact ⟨rfl, this⟩
theorem m_wc_out {i : Nat} (q : ¬ s + i < e) : m_wc tb s e i = 0 := by
  unfold m_wc
  rw [if_neg q]
theorem m_ap_0 {p d : Int} (h : d = 0) : m_ap p d = p := by
  unfold m_ap
  rw [if_pos h]
theorem m_ap_1 {p d x : Int} (h : d = x - 96 ∧ 97 ≤ x ∧ x ≤ 122) : m_ap p d = 256 * p + x := by
  unfold m_ap
  rw [if_neg (by omega)]
  omega
theorem m_WFl (h : ∀ j : Nat, s ≤ j → j < e → t_l (tb j) = true) (h1 : s < e) (h2 : e - s ≤ 6) : m_WF (t_let tb s e 6) = m_pk tb s (e - s) := by
  rw [m_let27, m_dig (m_wc_b h 0) (m_wc_b h 1) (m_wc_b h 2) (m_wc_b h 3) (m_wc_b h 4) (m_wc_b h 5)]
  have hm : e - s = 1 ∨ e - s = 2 ∨ e - s = 3 ∨ e - s = 4 ∨ e - s = 5 ∨ e - s = 6 := by omega
  rcases hm with q | q | q | q | q | q
  · rw [q, m_ap_0 (m_wc_out (by omega)), m_ap_0 (m_wc_out (by omega)), m_ap_0 (m_wc_out (by omega)), m_ap_0 (m_wc_out (by omega)), m_ap_0 (m_wc_out (by omega)), m_ap_1 (m_wc_in h (by omega))]
    rfl
  · rw [q, m_ap_0 (m_wc_out (by omega)), m_ap_0 (m_wc_out (by omega)), m_ap_0 (m_wc_out (by omega)), m_ap_0 (m_wc_out (by omega)), m_ap_1 (m_wc_in h (by omega)), m_ap_1 (m_wc_in h (by omega))]
    rfl
  · rw [q, m_ap_0 (m_wc_out (by omega)), m_ap_0 (m_wc_out (by omega)), m_ap_0 (m_wc_out (by omega)), m_ap_1 (m_wc_in h (by omega)), m_ap_1 (m_wc_in h (by omega)), m_ap_1 (m_wc_in h (by omega))]
    rfl
  · rw [q, m_ap_0 (m_wc_out (by omega)), m_ap_0 (m_wc_out (by omega)), m_ap_1 (m_wc_in h (by omega)), m_ap_1 (m_wc_in h (by omega)), m_ap_1 (m_wc_in h (by omega)), m_ap_1 (m_wc_in h (by omega))]
    rfl
  · rw [q, m_ap_0 (m_wc_out (by omega)), m_ap_1 (m_wc_in h (by omega)), m_ap_1 (m_wc_in h (by omega)), m_ap_1 (m_wc_in h (by omega)), m_ap_1 (m_wc_in h (by omega)), m_ap_1 (m_wc_in h (by omega))]
    rfl
  · rw [q, m_ap_1 (m_wc_in h (by omega)), m_ap_1 (m_wc_in h (by omega)), m_ap_1 (m_wc_in h (by omega)), m_ap_1 (m_wc_in h (by omega)), m_ap_1 (m_wc_in h (by omega)), m_ap_1 (m_wc_in h (by omega))]
    rfl
theorem m_WG1 {x : Int} (h : 97 ≤ x ∧ x ≤ 122) : m_WG x = m_f27 (x - 96) 0 0 0 0 0 := by
  unfold m_WG
  rw [if_pos (by omega)]
theorem m_WG2 {x y p : Int} (h : 97 ≤ x ∧ x ≤ 122) (h2 : 97 ≤ y ∧ y ≤ 122) (e : p = 256 * x + y) : m_WG p = m_f27 (x - 96) (y - 96) 0 0 0 0 := by
  have g0 : p / 256 = x := by omega
  have g1 : p % 256 = y := by omega
  unfold m_WG
  rw [if_neg (by omega), if_pos (by omega), g0, g1]
theorem m_WG3 {x y z p : Int} (h : 97 ≤ x ∧ x ≤ 122) (h2 : 97 ≤ y ∧ y ≤ 122) (h3 : 97 ≤ z ∧ z ≤ 122) (e : p = 65536 * x + 256 * y + z) : m_WG p = m_f27 (x - 96) (y - 96) (z - 96) 0 0 0 := by
  have g0 : p / 65536 = x := by omega
  have g1 : p / 256 % 256 = y := by omega
  have g2 : p % 256 = z := by omega
  unfold m_WG
  rw [if_neg (by omega), if_neg (by omega), if_pos (by omega), g0, g1, g2]
theorem m_WG4 {x y z u p : Int} (h : 97 ≤ x ∧ x ≤ 122) (h2 : 97 ≤ y ∧ y ≤ 122) (h3 : 97 ≤ z ∧ z ≤ 122) (h4 : 97 ≤ u ∧ u ≤ 122) (e : p = 16777216 * x + 65536 * y + 256 * z + u) : m_WG p = m_f27 (x - 96) (y - 96) (z - 96) (u - 96) 0 0 := by
  have g0 : p / 16777216 = x := by omega
  have g1 : p / 65536 % 256 = y := by omega
  have g2 : p / 256 % 256 = z := by omega
  have g3 : p % 256 = u := by omega
  unfold m_WG
  rw [if_neg (by omega), if_neg (by omega), if_neg (by omega), if_pos (by omega), g0, g1, g2, g3]
theorem m_WG5 {x y z u v p : Int} (h : 97 ≤ x ∧ x ≤ 122) (h2 : 97 ≤ y ∧ y ≤ 122) (h3 : 97 ≤ z ∧ z ≤ 122) (h4 : 97 ≤ u ∧ u ≤ 122) (h5 : 97 ≤ v ∧ v ≤ 122) (e : p = 4294967296 * x + 16777216 * y + 65536 * z + 256 * u + v) : m_WG p = m_f27 (x - 96) (y - 96) (z - 96) (u - 96) (v - 96) 0 := by
  have g0 : p / 4294967296 = x := by omega
  have g1 : p / 16777216 % 256 = y := by omega
  have g2 : p / 65536 % 256 = z := by omega
  have g3 : p / 256 % 256 = u := by omega
  have g4 : p % 256 = v := by omega
  unfold m_WG
  rw [if_neg (by omega), if_neg (by omega), if_neg (by omega), if_neg (by omega), if_pos (by omega), g0, g1, g2, g3, g4]
theorem m_WG6 {x y z u v w p : Int} (h : 97 ≤ x ∧ x ≤ 122) (h2 : 97 ≤ y ∧ y ≤ 122) (h3 : 97 ≤ z ∧ z ≤ 122) (h4 : 97 ≤ u ∧ u ≤ 122) (h5 : 97 ≤ v ∧ v ≤ 122) (h6 : 97 ≤ w ∧ w ≤ 122) (e : p = 1099511627776 * x + 4294967296 * y + 16777216 * z + 65536 * u + 256 * v + w) : m_WG p = m_f27 (x - 96) (y - 96) (z - 96) (u - 96) (v - 96) (w - 96) := by
  have g0 : p / 1099511627776 = x := by omega
  have g1 : p / 4294967296 % 256 = y := by omega
  have g2 : p / 16777216 % 256 = z := by omega
  have g3 : p / 65536 % 256 = u := by omega
  have g4 : p / 256 % 256 = v := by omega
  have g5 : p % 256 = w := by omega
  unfold m_WG
  rw [if_neg (by omega), if_neg (by omega), if_neg (by omega), if_neg (by omega), if_neg (by omega), g0, g1, g2, g3, g4, g5]
theorem m_pk_s {i : Nat} : m_pk tb s (i + 1) = 256 * m_pk tb s i + (tb (s + i)).toInt := rfl
theorem m_WGp (h : ∀ j : Nat, s ≤ j → j < e → t_l (tb j) = true) (h1 : s < e) (h2 : e - s ≤ 6) : m_WG (m_pk tb s (e - s)) = t_let tb s e 6 := by
  have p0 : m_pk tb s 0 = 0 := rfl
  have p1 : m_pk tb s 1 = 256 * m_pk tb s 0 + (tb (s + 0)).toInt := rfl
  have p2 : m_pk tb s 2 = 256 * m_pk tb s 1 + (tb (s + 1)).toInt := rfl
  have p3 : m_pk tb s 3 = 256 * m_pk tb s 2 + (tb (s + 2)).toInt := rfl
  have p4 : m_pk tb s 4 = 256 * m_pk tb s 3 + (tb (s + 3)).toInt := rfl
  have p5 : m_pk tb s 5 = 256 * m_pk tb s 4 + (tb (s + 4)).toInt := rfl
  have p6 : m_pk tb s 6 = 256 * m_pk tb s 5 + (tb (s + 5)).toInt := rfl
  rw [m_let27]
  have hm : e - s = 1 ∨ e - s = 2 ∨ e - s = 3 ∨ e - s = 4 ∨ e - s = 5 ∨ e - s = 6 := by omega
  have i0 := m_wc_in h (i := 0) (by omega)
  rcases hm with q | q | q | q | q | q
  · rw [q, m_wc_out (i := 1) (by omega), m_wc_out (i := 2) (by omega), m_wc_out (i := 3) (by omega), m_wc_out (i := 4) (by omega), m_wc_out (i := 5) (by omega), i0.1, show m_pk tb s 1 = (tb (s + 0)).toInt by omega]
    exact m_WG1 i0.2
  · have i1 := m_wc_in h (i := 1) (by omega)
    rw [q, m_wc_out (i := 2) (by omega), m_wc_out (i := 3) (by omega), m_wc_out (i := 4) (by omega), m_wc_out (i := 5) (by omega), i0.1, i1.1]
    exact m_WG2 i0.2 i1.2 (by omega)
  · have i1 := m_wc_in h (i := 1) (by omega)
    have i2 := m_wc_in h (i := 2) (by omega)
    rw [q, m_wc_out (i := 3) (by omega), m_wc_out (i := 4) (by omega), m_wc_out (i := 5) (by omega), i0.1, i1.1, i2.1]
    exact m_WG3 i0.2 i1.2 i2.2 (by omega)
  · have i1 := m_wc_in h (i := 1) (by omega)
    have i2 := m_wc_in h (i := 2) (by omega)
    have i3 := m_wc_in h (i := 3) (by omega)
    rw [q, m_wc_out (i := 4) (by omega), m_wc_out (i := 5) (by omega), i0.1, i1.1, i2.1, i3.1]
    exact m_WG4 i0.2 i1.2 i2.2 i3.2 (by omega)
  · have i1 := m_wc_in h (i := 1) (by omega)
    have i2 := m_wc_in h (i := 2) (by omega)
    have i3 := m_wc_in h (i := 3) (by omega)
    have i4 := m_wc_in h (i := 4) (by omega)
    rw [q, m_wc_out (i := 5) (by omega), i0.1, i1.1, i2.1, i3.1, i4.1]
    exact m_WG5 i0.2 i1.2 i2.2 i3.2 i4.2 (by omega)
  · have i1 := m_wc_in h (i := 1) (by omega)
    have i2 := m_wc_in h (i := 2) (by omega)
    have i3 := m_wc_in h (i := 3) (by omega)
    have i4 := m_wc_in h (i := 4) (by omega)
    have i5 := m_wc_in h (i := 5) (by omega)
    rw [q, i0.1, i1.1, i2.1, i3.1, i4.1, i5.1]
    exact m_WG6 i0.2 i1.2 i2.2 i3.2 i4.2 i5.2 (by omega)
/-- OWN WORDS: their letters, their longs -/
def m_wd (j i : Nat) : Int := if (t_words.getD j []).getD i 0 = 32 then 0 else (t_words.getD j []).getD i 0 - 96
def m_WL (j : Nat) : Int := m_f27 (m_wd j 0) (m_wd j 1) (m_wd j 2) (m_wd j 3) (m_wd j 4) (m_wd j 5)
def m_cw (j : Int) : Int := m_WF (m_WL j.toNat)
theorem m_wd_b : ∀ j : Nat, j < 27 → ∀ i : Nat, i < 6 → 0 ≤ m_wd j i ∧ m_wd j i ≤ 26 := by decide +kernel
theorem m_WLG : ∀ j : Nat, j < 27 → m_WG (m_WF (m_WL j)) = m_WL j := by decide +kernel
theorem m_cw_inj : ∀ j : Nat, j < 27 → ∀ i : Nat, i < 27 → m_WF (m_WL i) = m_WF (m_WL j) → i = j := by decide +kernel
theorem m_ch_c (h : ∀ j : Nat, s ≤ j → j < e → t_l (tb j) = true) {i j : Nat} (hj : j < 27) (hi : i < 6) : t_ch tb s e i = (t_words.getD j []).getD i 0 ↔ m_wc tb s e i = m_wd j i := by
  have w : ∀ j : Nat, j < 27 → ∀ i : Nat, i < 6 → (t_words.getD j []).getD i 0 = 32 ∨ (97 ≤ (t_words.getD j []).getD i 0 ∧ (t_words.getD j []).getD i 0 ≤ 122) := by decide +kernel
  have w1 := w j hj i hi
  unfold t_ch m_wc m_wd
  by_cases q : s + i < e
  · have := t_l_iff.mp (h (s + i) (Nat.le_add_right s i) q)
    rw [if_pos q, if_pos q]
    by_cases z : (t_words.getD j []).getD i 0 = 32
    · rw [if_pos z]
      omega
    · rw [if_neg z]
      omega
  · rw [if_neg q, if_neg q]
    by_cases z : (t_words.getD j []).getD i 0 = 32
    · rw [if_pos z]
      omega
    · rw [if_neg z]
      omega
theorem m_mt_L (h : ∀ j : Nat, s ≤ j → j < e → t_l (tb j) = true) {j : Nat} (hj : j < 27) : t_mt tb s e j = true ↔ t_let tb s e 6 = m_WL j := by
  rw [t_mt_iff, m_let27]
  constructor
  · intro a
    have b : ∀ i, i < 6 → m_wc tb s e i = m_wd j i := fun i hi => (m_ch_c h hj hi).mp (a i hi)
    unfold m_WL
    rw [b 0 (by decide), b 1 (by decide), b 2 (by decide), b 3 (by decide), b 4 (by decide), b 5 (by decide)]
  · intro a i hi
    have d := m_wd_b j hj
    obtain ⟨a0, a1, a2, a3, a4, a5⟩ := m_f27_inj (m_wc_b h 0) (m_wc_b h 1) (m_wc_b h 2) (m_wc_b h 3) (m_wc_b h 4) (m_wc_b h 5) (d 0 (by decide)) (d 1 (by decide)) (d 2 (by decide)) (d 3 (by decide)) (d 4 (by decide)) (d 5 (by decide)) a
    rw [m_ch_c h hj hi]
    have hi6 : i = 0 ∨ i = 1 ∨ i = 2 ∨ i = 3 ∨ i = 4 ∨ i = 5 := by omega
    rcases hi6 with q | q | q | q | q | q <;> subst q <;> assumption
theorem t_own_cases : (∃ j : Nat, j < 27 ∧ t_own tb s e = (j : Int) ∧ t_mt tb s e j = true) ∨ (t_own tb s e = -1 ∧ ∀ j : Nat, j < 27 → t_mt tb s e j = false) := by
  unfold t_own
  cases q : (List.range 27).find? (fun j => t_mt tb s e j) with
  | none => exact Or.inr ⟨rfl, fun j hj => by
      have := List.find?_range_eq_none.mp q j hj
      cases z : t_mt tb s e j with
      | false => rfl
      | true => rw [z] at this; exact absurd this (by decide)⟩
  | some j =>
    have := List.find?_range_eq_some.mp q
    exact Or.inl ⟨j, List.mem_range.mp this.2.1, rfl, this.1⟩
/-- what the reference's next sign is: sign, value, where it is wrong, word; of token k -/
def k_tok (kd vl : Nat → Int32) (k : Nat) (sg va lx : Int32) (wd : Int64) : Prop :=
  (lx.toInt = -1 ↔ (kd k).toInt ≠ 5) ∧ (sg.toInt = 0 ↔ (kd k).toInt = 0) ∧ ((kd k).toInt ≠ 5 → (sg.toInt = 3 ↔ (kd k).toInt = 4) ∧ (sg.toInt = 2 ↔ (kd k).toInt = 3) ∧ (sg.toInt = 1 ↔ ((kd k).toInt = 1 ∨ (kd k).toInt = 2)) ∧ ((kd k).toInt = 3 ∨ (kd k).toInt = 4 → va.toInt = (vl k).toInt) ∧ ((kd k).toInt = 1 → 0 ≤ (vl k).toInt ∧ (vl k).toInt ≤ 26 ∧ wd.toInt = m_cw (vl k).toInt) ∧ ((kd k).toInt = 2 → wd.toInt = m_WF (vl k).toInt ∧ m_WG wd.toInt = (vl k).toInt ∧ ∀ j : Nat, j < 27 → wd.toInt ≠ m_WF (m_WL j)))
theorem T_kd_at {k : Nat} {v : Int} (h : t_kd tb n k = v) (h0 : 0 ≤ v) (h1 : v ≤ 5) : (T_kd tb n k).toInt = v := by
  unfold T_kd
  rw [h]
  exact Int32.toInt_ofInt_of_le (by omega) (by omega)
theorem T_vl_at {k : Nat} {v : Int} (h : t_vl tb n k = v) (h0 : -2147483648 ≤ v) (h1 : v ≤ 2147483647) : (T_vl tb n k).toInt = v := by
  unfold T_vl
  rw [h]
  exact Int32.toInt_ofInt_of_le (by omega) (by omega)
theorem k_tok.eod {k : Nat} {sg va lx : Int32} {wd : Int64} (hs : ¬ t_s tb n k < n) (h1 : sg.toInt = 0) (h2 : lx.toInt = -1) : k_tok (T_kd tb n) (T_vl tb n) k sg va lx wd := by
  have e : (T_kd tb n k).toInt = 0 := T_kd_at (by unfold t_kd; rw [if_neg hs]) (by decide) (by decide)
  unfold k_tok
  rw [e]
  refine ⟨by omega, by omega, fun _ => ⟨by omega, by omega, by omega, by omega, fun q => absurd q (by decide), fun q => absurd q (by decide)⟩⟩
theorem k_tok.sgn {k : Nat} {sg va lx : Int32} {wd : Int64} (hs : t_s tb n k < n) (h1 : sg.toInt = 3) (h2 : lx.toInt = -1) (hv : tb (t_s tb n k) = va) (hl : t_l va = false) (hd : t_d va = false) : k_tok (T_kd tb n) (T_vl tb n) k sg va lx wd := by
  obtain ⟨a, b⟩ := t_K_sign (ad := t_adj tb (t_s tb n k)) (e := t_P tb n (k + 1)) hv hl hd
  have e1 : (T_kd tb n k).toInt = 4 := T_kd_at (by unfold t_kd; rw [if_pos hs, ← a]; decide +kernel) (by decide) (by decide)
  have e2 : (T_vl tb n k).toInt = va.toInt := T_vl_at (by unfold t_vl; rw [if_pos hs, ← b]) (Int32.le_toInt va) (Int32.toInt_le va)
  unfold k_tok
  rw [e1, e2]
  refine ⟨by omega, by omega, fun _ => ⟨by omega, by omega, by omega, by omega, fun q => absurd q (by decide), fun q => absurd q (by decide)⟩⟩
theorem k_tok.num {k : Nat} {sg va lx : Int32} {wd : Int64} {m : Nat} (hs : t_s tb n k < n) (h1 : sg.toInt = 2) (hd : t_d (tb (t_s tb n k)) = true) (hm : t_P tb n (k + 1) - t_s tb n k = m) (hx : lx.toInt ≠ -1 ↔ (t_adj tb (t_s tb n k) = true ∨ 4 < m)) (hv : m ≤ 4 → va.toInt = t_num tb (t_s tb n k) m) : k_tok (T_kd tb n) (T_vl tb n) k sg va lx wd := by
  have hl : ¬ t_l (tb (t_s tb n k)) = true := by rw [t_ld hd]; decide
  have eK : t_kd tb n k = if 4 < m ∨ t_adj tb (t_s tb n k) = true then 5 else 3 := by
    unfold t_kd t_K
    rw [if_pos hs, if_neg hl, if_pos hd, hm]
  by_cases q : 4 < m ∨ t_adj tb (t_s tb n k) = true
  · rw [if_pos q] at eK
    have e1 : (T_kd tb n k).toInt = 5 := T_kd_at eK (by decide) (by decide)
    have q2 : lx.toInt ≠ -1 := hx.mpr q.symm
    unfold k_tok
    rw [e1]
    exact ⟨by omega, by omega, fun z => absurd rfl z⟩
  · rw [if_neg q] at eK
    have e1 : (T_kd tb n k).toInt = 3 := T_kd_at eK (by decide) (by decide)
    have q2 : ¬ lx.toInt ≠ -1 := fun z => q (hx.mp z).symm
    have q3 : ¬ t_adj tb (t_s tb n k) = true := fun z => q (Or.inr z)
    have hv2 := hv (by omega)
    have eV : t_vl tb n k = va.toInt := by
      unfold t_vl t_V
      rw [if_pos hs, if_neg hl, if_pos hd, hm, if_neg (by omega), if_neg q3, hv2]
    have e2 : (T_vl tb n k).toInt = va.toInt := T_vl_at eV (Int32.le_toInt va) (Int32.toInt_le va)
    unfold k_tok
    rw [e1, e2]
    refine ⟨by omega, by omega, fun _ => ⟨by omega, by omega, by omega, by omega, fun q => absurd q (by decide), fun q => absurd q (by decide)⟩⟩
theorem k_tok.wrd {k : Nat} {sg va lx : Int32} {wd : Int64} {m : Nat} (hs : t_s tb n k < n) (h1 : sg.toInt = 1) (h0 : t_s tb n k < t_P tb n (k + 1)) (hl : ∀ j : Nat, t_s tb n k ≤ j → j < t_P tb n (k + 1) → t_l (tb j) = true) (hm : t_P tb n (k + 1) - t_s tb n k = m) (hx : lx.toInt ≠ -1 ↔ (t_adj tb (t_s tb n k) = true ∨ 6 < m)) (hv : m ≤ 6 → wd.toInt = m_pk tb (t_s tb n k) m) : k_tok (T_kd tb n) (T_vl tb n) k sg va lx wd := by
  have hl0 := hl (t_s tb n k) (Nat.le_refl _) h0
  have eK : t_kd tb n k = if 6 < m ∨ t_adj tb (t_s tb n k) = true then 5 else if t_own tb (t_s tb n k) (t_P tb n (k + 1)) = -1 then 2 else 1 := by
    unfold t_kd t_K
    rw [if_pos hs, if_pos hl0, hm]
  by_cases q : 6 < m ∨ t_adj tb (t_s tb n k) = true
  · rw [if_pos q] at eK
    have e1 : (T_kd tb n k).toInt = 5 := T_kd_at eK (by decide) (by decide)
    have q2 : lx.toInt ≠ -1 := hx.mpr q.symm
    unfold k_tok
    rw [e1]
    exact ⟨by omega, by omega, fun z => absurd rfl z⟩
  · rw [if_neg q] at eK
    have q2 : ¬ lx.toInt ≠ -1 := fun z => q (hx.mp z).symm
    have q3 : ¬ t_adj tb (t_s tb n k) = true := fun z => q (Or.inr z)
    have hm6 : m ≤ 6 := by omega
    have hv2 := hv hm6
    have F := m_WFl (tb := tb) hl h0 (by omega)
    have G := m_WGp (tb := tb) hl h0 (by omega)
    rw [hm] at F G
    rcases t_own_cases (tb := tb) (s := t_s tb n k) (e := t_P tb n (k + 1)) with ⟨j, hj, o1, o2⟩ | ⟨o1, o2⟩
    · rw [if_neg (by omega)] at eK
      have e1 : (T_kd tb n k).toInt = 1 := T_kd_at eK (by decide) (by decide)
      have eV : t_vl tb n k = (j : Int) := by
        unfold t_vl t_V
        rw [if_pos hs, if_pos hl0, hm, if_neg (by omega), if_neg q3, if_neg (by omega), o1]
      have e2 : (T_vl tb n k).toInt = (j : Int) := T_vl_at eV (by omega) (by omega)
      have e3 := (m_mt_L (tb := tb) hl hj).mp o2
      unfold k_tok
      rw [e1, e2]
      refine ⟨by omega, by omega, fun _ => ⟨by omega, by omega, by omega, by omega, fun _ => ⟨by omega, by omega, ?_⟩, fun q => absurd q (by decide)⟩⟩
      unfold m_cw
      rw [Int.toNat_natCast, hv2, ← F, e3]
    · rw [if_pos o1] at eK
      have e1 : (T_kd tb n k).toInt = 2 := T_kd_at eK (by decide) (by decide)
      have eV : t_vl tb n k = t_let tb (t_s tb n k) (t_P tb n (k + 1)) 6 := by
        unfold t_vl t_V
        rw [if_pos hs, if_pos hl0, hm, if_neg (by omega), if_neg q3, if_pos o1]
      have b := t_let_b (tb := tb) hl 6
      have c6 : (27 : Int) ^ 6 = 387420489 := by decide
      have e2 : (T_vl tb n k).toInt = t_let tb (t_s tb n k) (t_P tb n (k + 1)) 6 := T_vl_at eV (by omega) (by omega)
      unfold k_tok
      rw [e1, e2]
      refine ⟨by omega, by omega, fun _ => ⟨by omega, by omega, by omega, by omega, fun q => absurd q (by decide), fun _ => ⟨by rw [hv2, F], by rw [hv2, G], fun j hj z => ?_⟩⟩⟩
      have z2 : t_let tb (t_s tb n k) (t_P tb n (k + 1)) 6 = m_WL j := by rw [← G, ← hv2, z, m_WLG j hj]
      have z3 := (m_mt_L (tb := tb) hl hj).mpr z2
      rw [o2 j hj] at z3
      cases z3
/-! which token it is -/
/-- the number of the token that begins there -/
def t_ix (tb : Nat → Int32) (n a : Nat) : Nat := ((List.range (n + 1)).find? (fun k => decide (a ≤ t_s tb n k))).getD 0
theorem t_s_ge {k : Nat} : t_P tb n k ≤ t_s tb n k := t_sk_ge
theorem t_s_lt {k : Nat} (h : t_s tb n k < n) : t_s tb n k < t_s tb n (k + 1) := by
  have a := t_en_gt (b := tb) h
  rw [← t_P_s h] at a
  exact Nat.lt_of_lt_of_le a t_s_ge
theorem t_s_mono {k : Nat} (h : ∀ j : Nat, j < k → t_s tb n j < n) : ∀ j : Nat, j < k → t_s tb n j < t_s tb n k := by
  induction k with
  | zero => intro j hj; exact absurd hj (Nat.not_lt_zero j)
  | succ k ih =>
    intro j hj
    have a := t_s_lt (h k (Nat.lt_succ_self k))
    by_cases q : j = k
    · rw [q]; exact a
    · exact Nat.lt_trans (ih (fun i hi => h i (Nat.lt_succ_of_lt hi)) j (by omega)) a
theorem t_s_idx {k : Nat} (h : ∀ j : Nat, j < k → t_s tb n j < n) : k ≤ n := by
  cases k with
  | zero => exact Nat.zero_le n
  | succ k =>
    have a : ∀ i : Nat, i ≤ k → i ≤ t_s tb n i := by
      intro i
      induction i with
      | zero => intro _; exact Nat.zero_le _
      | succ i ih =>
        intro hi
        have b := t_s_lt (h i (by omega))
        have c := ih (by omega)
        omega
    have b := a k (Nat.le_refl k)
    have c := h k (Nat.lt_succ_self k)
    omega
theorem t_ix_eq {k a : Nat} (h : ∀ j : Nat, j < k → t_s tb n j < n) (e : t_s tb n k = a) : t_ix tb n a = k := by
  have m := t_s_mono h
  have q : (List.range (n + 1)).find? (fun k => decide (a ≤ t_s tb n k)) = some k := List.find?_range_eq_some.mpr ⟨decide_eq_true (by omega), List.mem_range.mpr (by have := t_s_idx h; omega), fun j hj => by
    have := m j hj
    show (!decide (a ≤ t_s tb n j)) = true
    rw [decide_eq_false (by omega)]; rfl⟩
  unfold t_ix
  rw [q]
  rfl
end MT9
end
section
/-! the reference's next sign, as it lies in its fields -/
def TKA (tb : Nat → Int32) (n k : Nat) (S : dg_S) : Prop := (∀ j : Nat, j < k → t_s tb n j < n) ∧ ∃ (sg sa se va lx : Int32) (wd : Int64), S.1 0 3 = .int sg ∧ S.1 0 4 = .int sa ∧ S.1 0 5 = .int se ∧ S.1 0 6 = .int va ∧ S.1 0 7 = .long wd ∧ S.1 0 12 = .int lx ∧ sa.toNatClampNeg = t_s tb n k ∧ se.toNatClampNeg = t_P tb n (k + 1) ∧ k_tok (T_kd tb n) (T_vl tb n) k sg va lx wd
/-- the text and how long it is -/
def TZM (tb : Nat → Int32) (n : Nat) (S : dg_S) : Prop := S.2.1 1 = tb ∧ n ≤ 1600 ∧ ∃ sl : Int32, S.1 0 2 = .int sl ∧ sl.toNatClampNeg = n
def TKM (tb : Nat → Int32) (n : Nat) (S : dg_S) : Prop := TZM tb n S ∧ ∃ k, TKA tb n k S
/-- kept from arithmetic's eyes -/
def m_hid (P : Prop) : Prop := P
theorem m_hid.mk {P : Prop} (h : P) : m_hid P := h
theorem m_hid.out {P : Prop} (h : m_hid P) : P := h
section TKS
variable {tb : Nat → Int32} {n k : Nat} {S S1 : dg_S} {WF : List (Nat × Nat)} {WA : List Nat} {sg sa se va lx sl : Int32} {wd : Int64}
theorem TZM.keep (h : TZM tb n S) (m : dg_sm shM WF WA S S1) (h2 : (0, 2) ∉ WF) (k1 : 1 ∉ WA) : TZM tb n S1 := by
  obtain ⟨a, b, sl, f, e⟩ := h
  exact ⟨(m.2 1 _ sM_1 k1).1.trans a, b, sl, (m.1 0 2 _ sM_0 h2).trans f, e⟩
theorem TZM.siz (h : TZM tb n S) (f : S.1 0 2 = .int sl) : sl.toNatClampNeg = n := by
  obtain ⟨-, -, sl', f', e⟩ := h
  cases f.symm.trans f'
  exact e
theorem TKA.keep (h : TKA tb n k S) (m : dg_sm shM WF WA S S1) (h3 : (0, 3) ∉ WF) (h4 : (0, 4) ∉ WF) (h5 : (0, 5) ∉ WF) (h6 : (0, 6) ∉ WF) (h7 : (0, 7) ∉ WF) (h12 : (0, 12) ∉ WF) : TKA tb n k S1 := by
  obtain ⟨a, sg, sa, se, va, lx, wd, f3, f4, f5, f6, f7, f12, e⟩ := h
  exact ⟨a, sg, sa, se, va, lx, wd, (m.1 0 3 _ sM_0 h3).trans f3, (m.1 0 4 _ sM_0 h4).trans f4, (m.1 0 5 _ sM_0 h5).trans f5, (m.1 0 6 _ sM_0 h6).trans f6, (m.1 0 7 _ sM_0 h7).trans f7, (m.1 0 12 _ sM_0 h12).trans f12, e⟩
theorem TKM.keep (h : TKM tb n S) (m : dg_sm shM WF WA S S1) (h2 : (0, 2) ∉ WF) (h3 : (0, 3) ∉ WF) (h4 : (0, 4) ∉ WF) (h5 : (0, 5) ∉ WF) (h6 : (0, 6) ∉ WF) (h7 : (0, 7) ∉ WF) (h12 : (0, 12) ∉ WF) (k1 : 1 ∉ WA) : TKM tb n S1 := by
  obtain ⟨a, k, b⟩ := h
  exact ⟨a.keep m h2 k1, k, b.keep m h3 h4 h5 h6 h7 h12⟩
/-- what is known of the next sign -/
theorem TKM.tok (h : TKM tb n S) (f3 : S.1 0 3 = .int sg) (f4 : S.1 0 4 = .int sa) (f6 : S.1 0 6 = .int va) (f7 : S.1 0 7 = .long wd) (f12 : S.1 0 12 = .int lx) : k_tok (T_kd tb n) (T_vl tb n) (t_ix tb n sa.toNatClampNeg) sg va lx wd := by
  obtain ⟨-, k, a, sg', sa', se', va', lx', wd', g3, g4, g5, g6, g7, g12, e1, e2, e3⟩ := h
  cases f3.symm.trans g3
  cases f4.symm.trans g4
  cases f6.symm.trans g6
  cases f7.symm.trans g7
  cases f12.symm.trans g12
  rw [t_ix_eq a e1.symm]
  exact e3
theorem TKM.ex (h : TKM tb n S) (f3 : S.1 0 3 = .int sg) (f4 : S.1 0 4 = .int sa) (f6 : S.1 0 6 = .int va) : ∃ (wd : Int64) (lx : Int32), S.1 0 7 = .long wd ∧ S.1 0 12 = .int lx ∧ k_tok (T_kd tb n) (T_vl tb n) (t_ix tb n sa.toNatClampNeg) sg va lx wd := by
  have h0 := h
  obtain ⟨-, k, a, sg', sa', se', va', lx', wd', g3, g4, g5, g6, g7, g12, e1, e2, e3⟩ := h
  exact ⟨wd', lx', g7, g12, h0.tok f3 f4 f6 g7 g12⟩
theorem TKM.lex (h : TKM tb n S) (f4 : S.1 0 4 = .int sa) (f12 : S.1 0 12 = .int lx) : lx.toInt = -1 ↔ (T_kd tb n (t_ix tb n sa.toNatClampNeg)).toInt ≠ 5 := by
  have h0 := h
  obtain ⟨-, k, a, sg', sa', se', va', lx', wd', g3, g4, g5, g6, g7, g12, e1, e2, e3⟩ := h
  exact (h0.tok g3 f4 g6 g7 f12).1
theorem TKM.zero (h : TKM tb n S) (f3 : S.1 0 3 = .int sg) (f4 : S.1 0 4 = .int sa) : sg.toInt = 0 ↔ (T_kd tb n (t_ix tb n sa.toNatClampNeg)).toInt = 0 := by
  have h0 := h
  obtain ⟨-, k, a, sg', sa', se', va', lx', wd', g3, g4, g5, g6, g7, g12, e1, e2, e3⟩ := h
  exact (h0.tok f3 f4 g6 g7 g12).2.1
theorem TKM.sgn (h : TKM tb n S) (f3 : S.1 0 3 = .int sg) (f4 : S.1 0 4 = .int sa) (f6 : S.1 0 6 = .int va) (h5 : (T_kd tb n (t_ix tb n sa.toNatClampNeg)).toInt ≠ 5) {c : Int} : g_s (T_kd tb n) (T_vl tb n) c (t_ix tb n sa.toNatClampNeg) = true ↔ sg.toInt = 3 ∧ va.toInt = c := by
  obtain ⟨wd, lx, f7, f12, e⟩ := h.ex f3 f4 f6
  obtain ⟨-, -, e⟩ := e
  obtain ⟨e3, e2, e1, ev, eo, en⟩ := e h5
  rw [g_s_iff]
  constructor
  · rintro ⟨a, b⟩
    exact ⟨e3.mpr a, by rw [ev (Or.inr a), b]⟩
  · rintro ⟨a, b⟩
    have a2 := e3.mp a
    exact ⟨a2, by rw [← ev (Or.inr a2), b]⟩
theorem TKM.num (h : TKM tb n S) (f3 : S.1 0 3 = .int sg) (f4 : S.1 0 4 = .int sa) (f6 : S.1 0 6 = .int va) (h5 : (T_kd tb n (t_ix tb n sa.toNatClampNeg)).toInt ≠ 5) : ((T_kd tb n (t_ix tb n sa.toNatClampNeg)).toInt = 3 ↔ sg.toInt = 2) ∧ (sg.toInt = 2 → va.toInt = (T_vl tb n (t_ix tb n sa.toNatClampNeg)).toInt) := by
  obtain ⟨wd, lx, f7, f12, e⟩ := h.ex f3 f4 f6
  obtain ⟨-, -, e⟩ := e
  obtain ⟨e3, e2, e1, ev, eo, en⟩ := e h5
  exact ⟨e2.symm, fun a => ev (Or.inl (e2.mp a))⟩
theorem TKM.wrd (h : TKM tb n S) (f3 : S.1 0 3 = .int sg) (f4 : S.1 0 4 = .int sa) (f7 : S.1 0 7 = .long wd) (h5 : (T_kd tb n (t_ix tb n sa.toNatClampNeg)).toInt ≠ 5) {j : Nat} (hj : j < 27) : g_o (T_kd tb n) (T_vl tb n) (j : Int) (t_ix tb n sa.toNatClampNeg) = true ↔ sg.toInt = 1 ∧ wd.toInt = m_WF (m_WL j) := by
  have h0 := h
  obtain ⟨-, k, a, sg', sa', se', va', lx', wd', g3, g4, g5, g6, g7, g12, e1, e2, e3⟩ := h
  obtain ⟨-, -, e⟩ := h0.tok f3 f4 g6 f7 g12
  obtain ⟨e3, e2, e1, ev, eo, en⟩ := e h5
  rw [g_o_iff]
  constructor
  · rintro ⟨a, b⟩
    have c := (eo a).2.2
    rw [b] at c
    exact ⟨e1.mpr (Or.inl a), by rw [c]; unfold m_cw; rw [Int.toNat_natCast]⟩
  · rintro ⟨a, b⟩
    rcases e1.mp a with q | q
    · obtain ⟨q1, q2, q3⟩ := eo q
      refine ⟨q, ?_⟩
      have q4 := m_cw_inj j hj (T_vl tb n (t_ix tb n sa.toNatClampNeg)).toInt.toNat (by omega) (by rw [← b, q3]; rfl)
      omega
    · exact absurd b ((en q).2.2 j hj)
theorem TKM.nam (h : TKM tb n S) (f3 : S.1 0 3 = .int sg) (f4 : S.1 0 4 = .int sa) (f7 : S.1 0 7 = .long wd) (h5 : (T_kd tb n (t_ix tb n sa.toNatClampNeg)).toInt ≠ 5) : ((T_kd tb n (t_ix tb n sa.toNatClampNeg)).toInt = 2 ↔ sg.toInt = 1 ∧ ∀ j : Nat, j < 27 → wd.toInt ≠ m_WF (m_WL j)) ∧ ((T_kd tb n (t_ix tb n sa.toNatClampNeg)).toInt = 2 → wd.toInt = m_WF (T_vl tb n (t_ix tb n sa.toNatClampNeg)).toInt ∧ m_WG wd.toInt = (T_vl tb n (t_ix tb n sa.toNatClampNeg)).toInt) := by
  have h0 := h
  obtain ⟨-, k, a, sg', sa', se', va', lx', wd', g3, g4, g5, g6, g7, g12, e1, e2, e3⟩ := h
  obtain ⟨-, -, e⟩ := h0.tok f3 f4 g6 f7 g12
  obtain ⟨e3, e2, e1, ev, eo, en⟩ := e h5
  refine ⟨⟨fun q => ⟨e1.mpr (Or.inr q), (en q).2.2⟩, fun q => ?_⟩, fun q => ⟨(en q).1, (en q).2.1⟩⟩
  rcases e1.mp q.1 with z | z
  · obtain ⟨q1, q2, q3⟩ := eo z
    exact absurd (by rw [q3]; rfl) (q.2 (T_vl tb n (t_ix tb n sa.toNatClampNeg)).toInt.toNat (by omega))
  · exact z
theorem TKM.w1 (h : TKM tb n S) (f3 : S.1 0 3 = .int sg) (f4 : S.1 0 4 = .int sa) (h5 : (T_kd tb n (t_ix tb n sa.toNatClampNeg)).toInt ≠ 5) : sg.toInt = 1 ↔ ((T_kd tb n (t_ix tb n sa.toNatClampNeg)).toInt = 1 ∨ (T_kd tb n (t_ix tb n sa.toNatClampNeg)).toInt = 2) := by
  have h0 := h
  obtain ⟨-, k, a, sg', sa', se', va', lx', wd', g3, g4, g5, g6, g7, g12, e1, e2, e3⟩ := h
  exact ((h0.tok f3 f4 g6 g7 g12).2.2 h5).2.2.1
/-- the sign behind -/
def TNX (tb : Nat → Int32) (n : Nat) (se : Int32) (S' : dg_S) : Prop := ∀ k : Nat, (∀ j : Nat, j < k → t_s tb n j < n) → t_sk tb n se.toNatClampNeg = t_s tb n k → TKA tb n k S'
theorem TKM.nx {sa' : Int32} (h : TKM tb n S) (f4 : S.1 0 4 = .int sa) (f5 : S.1 0 5 = .int se) (hn : TNX tb n se S1) (m : dg_sm shM WF WA S S1) (h2 : (0, 2) ∉ WF) (k1 : 1 ∉ WA) (f4' : S1.1 0 4 = .int sa') : TKM tb n S1 ∧ ((T_kd tb n (t_ix tb n sa.toNatClampNeg)).toInt ≠ 0 → t_ix tb n sa'.toNatClampNeg = t_ix tb n sa.toNatClampNeg + 1) ∧ ((T_kd tb n (t_ix tb n sa.toNatClampNeg)).toInt = 0 → t_ix tb n sa'.toNatClampNeg = t_ix tb n sa.toNatClampNeg) := by
  obtain ⟨z, k, a, sg', s4, s5, va', lx', wd', g3, g4, g5, g6, g7, g12, e1, e2, e3⟩ := h
  cases f4.symm.trans g4
  cases f5.symm.trans g5
  have ek := t_ix_eq a e1.symm
  have z1 := z.keep m h2 k1
  have hz : (T_kd tb n k).toInt = 0 ↔ ¬ t_s tb n k < n := by
    constructor
    · intro q r
      have q2 := e3.2.1
      unfold T_kd t_kd at q
      rw [if_pos r] at q
      unfold t_K at q
      split at q
      · split at q
        · exact absurd q (by decide +kernel)
        · split at q <;> exact absurd q (by decide +kernel)
      · split at q
        · split at q <;> exact absurd q (by decide +kernel)
        · exact absurd q (by decide +kernel)
    · intro q
      unfold T_kd t_kd
      rw [if_neg q]
      decide +kernel
  rw [ek]
  by_cases q : t_s tb n k < n
  · have a' : ∀ j : Nat, j < k + 1 → t_s tb n j < n := fun j hj => by
      by_cases w : j = k
      · rw [w]; exact q
      · exact a j (by omega)
    have t := hn (k + 1) a' (by rw [e2]; rfl)
    obtain ⟨b1, sg2, sa2, se2, va2, lx2, wd2, k3, k4, k5, k6, k7, k12, d1, d2, d3⟩ := id t
    cases f4'.symm.trans k4
    refine ⟨⟨z1, k + 1, t⟩, fun _ => t_ix_eq b1 d1.symm, fun w => absurd (hz.mp w) (by simpa using q)⟩
  · have e5 : t_s tb n k = n := by
      have := t_sk_le (b := tb) (t_P_le (b := tb) (n := n) k)
      have := t_s_def (b := tb) (n := n) (k := k)
      omega
    have t := hn k a (by
      rw [e2, t_P_e q, e5]
      exact t_sk_no (by unfold t_bk; simp))
    obtain ⟨b1, sg2, sa2, se2, va2, lx2, wd2, k3, k4, k5, k6, k7, k12, d1, d2, d3⟩ := id t
    cases f4'.symm.trans k4
    exact ⟨⟨z1, k, t⟩, fun w => absurd (hz.mpr q) w, fun _ => t_ix_eq b1 d1.symm⟩
/-- the first sign -/
theorem TZM.first {sa' : Int32} (h : TZM tb n S) (h0 : se.toInt = 0) (hn : TNX tb n se S1) (m : dg_sm shM WF WA S S1) (h2 : (0, 2) ∉ WF) (k1 : 1 ∉ WA) (f4' : S1.1 0 4 = .int sa') : TKM tb n S1 ∧ t_ix tb n sa'.toNatClampNeg = 0 := by
  have e0 := dk_clN se
  have t := hn 0 (fun j hj => absurd hj (Nat.not_lt_zero j)) (by rw [show se.toNatClampNeg = 0 by omega]; rfl)
  obtain ⟨b1, sg2, sa2, se2, va2, lx2, wd2, k3, k4, k5, k6, k7, k12, d1, d2, d3⟩ := id t
  cases f4'.symm.trans k4
  exact ⟨⟨h.keep m h2 k1, 0, t⟩, t_ix_eq b1 d1.symm⟩
/-! what the search for it knows -/
theorem t_sk_nx {a a' : Int32} (hn : n ≤ 1600) (ha : a.toNatClampNeg < n) (hb : t_b (tb a.toNatClampNeg) = true) (hj : a'.toInt = a.toInt + 1) (h0 : 0 ≤ a.toInt) : t_sk tb n a.toNatClampNeg = t_sk tb n a'.toNatClampNeg := by
  have e1 := dk_clN a
  have e2 := dk_clN a'
  rw [show a'.toNatClampNeg = a.toNatClampNeg + 1 by omega]
  exact (t_sk_yes hn (by unfold t_bk; rw [decide_eq_true ha, hb]; rfl)).symm
theorem t_sk_stay {a : Nat} (hb : t_b (tb a) = false) : t_sk tb n a = a := t_sk_no (by unfold t_bk; rw [hb]; simp)
theorem t_sk_over {a : Nat} (h : n ≤ a) : t_sk tb n a = a := t_sk_no (by unfold t_bk; rw [decide_eq_false (by omega)]; rfl)
theorem t_adj_y {a a1 v : Int32} (ha : 0 < a.toInt) (h1 : a1.toInt = a.toInt - 1) (kx : tb a1.toNatClampNeg = v) : t_adj tb a.toNatClampNeg = (t_l v || t_d v) := by
  have e1 := dk_clN a
  have e2 := dk_clN a1
  unfold t_adj
  rw [decide_eq_true (by omega), show a.toNatClampNeg - 1 = a1.toNatClampNeg by omega, kx]
  rfl
theorem t_lx_y {a a1 v lt dg x : Int32} (hf : lt.toInt = 1 ∨ dg.toInt = 1) (ha : 0 < a.toInt) (h1 : a1.toInt = a.toInt - 1) (kx : tb a1.toNatClampNeg = v) (hv : (97 ≤ v.toInt ∧ v.toInt ≤ 122) ∨ (48 ≤ v.toInt ∧ v.toInt ≤ 57)) (hx : x.toInt ≠ -1) : x.toInt ≠ -1 ↔ ((lt.toInt = 1 ∨ dg.toInt = 1) ∧ t_adj tb a.toNatClampNeg = true) := by
  refine ⟨fun _ => ⟨hf, ?_⟩, fun _ => hx⟩
  rw [t_adj_y ha h1 kx]
  rcases hv with q | q
  · rw [t_l_iff.mpr q]; rfl
  · rw [t_d_iff.mpr q]; simp
theorem t_lx_n {a a1 v lt dg x : Int32} (ha : 0 < a.toInt) (h1 : a1.toInt = a.toInt - 1) (kx : tb a1.toNatClampNeg = v) (hv : ¬ (97 ≤ v.toInt ∧ v.toInt ≤ 122)) (hv2 : ¬ (48 ≤ v.toInt ∧ v.toInt ≤ 57)) (hx : x.toInt = -1) : x.toInt ≠ -1 ↔ ((lt.toInt = 1 ∨ dg.toInt = 1) ∧ t_adj tb a.toNatClampNeg = true) := by
  refine ⟨fun q => absurd hx q, fun q => ?_⟩
  rw [t_adj_y ha h1 kx, t_l_f hv, t_d_f hv2] at q
  exact absurd q.2 (by decide)
theorem t_lx_z {a lt dg x : Int32} (h : ¬ (lt.toInt = 1 ∨ dg.toInt = 1) ∨ a.toInt ≤ 0) (hx : x.toInt = -1) : x.toInt ≠ -1 ↔ ((lt.toInt = 1 ∨ dg.toInt = 1) ∧ t_adj tb a.toNatClampNeg = true) := by
  refine ⟨fun q => absurd hx q, fun q => ?_⟩
  rcases h with h | h
  · exact absurd q.1 h
  · have e1 := dk_clN a
    have q2 := q.2
    unfold t_adj at q2
    rw [decide_eq_false (by omega)] at q2
    exact absurd q2 (by simp)
theorem t_lx0 {P : Prop} {lt dg x mo m : Int32} (h : x.toInt ≠ -1 ↔ ((lt.toInt = 1 ∨ dg.toInt = 1) ∧ P)) (hf : lt.toInt = 1 ∨ dg.toInt = 1) (hm : ¬ mo.toInt < m.toInt) : x.toInt ≠ -1 ↔ (P ∨ mo.toInt < m.toInt) :=
  ⟨fun q => Or.inl (h.mp q).2, fun q => h.mpr ⟨hf, q.resolve_right hm⟩⟩
theorem t_lx_i {P F : Prop} {x : Int32} (h : x.toInt ≠ -1 ↔ (F ∧ P)) (hf : ¬ F) : x.toInt = -1 := by
  by_cases q : x.toInt = -1
  · exact q
  · exact absurd (h.mp q).1 hf
theorem t_lx1 {P : Prop} {x mo m m' : Int32} (h : x.toInt ≠ -1 ↔ (P ∨ mo.toInt < m.toInt)) (e : mo.toInt < m.toInt ↔ mo.toInt < m'.toInt) : x.toInt ≠ -1 ↔ (P ∨ mo.toInt < m'.toInt) := by
  rw [← e]
  exact h
theorem t_lx2 {P : Prop} {x mo m' : Int32} (h : x.toInt ≠ -1) (e : mo.toInt < m'.toInt) : x.toInt ≠ -1 ↔ (P ∨ mo.toInt < m'.toInt) := ⟨fun _ => Or.inr e, fun _ => h⟩
theorem m_pk_b {s e : Nat} (h : ∀ j : Nat, s ≤ j → j < e → t_l (tb j) = true) : ∀ i : Nat, s + i ≤ e → 0 ≤ m_pk tb s i ∧ m_pk tb s i + 1 ≤ 256 ^ i
  | 0, _ => ⟨Int.le_refl 0, by show (0 : Int) + 1 ≤ 256 ^ 0; decide⟩
  | i + 1, hi => by
    have ih := m_pk_b h i (by omega)
    have := t_l_iff.mp (h (s + i) (Nat.le_add_right s i) (by omega))
    show 0 ≤ 256 * m_pk tb s i + (tb (s + i)).toInt ∧ 256 * m_pk tb s i + (tb (s + i)).toInt + 1 ≤ 256 ^ i * 256
    omega
theorem m_pk_z {s m : Int32} {w : Int64} (hm : m.toInt = 0) (hw : w.toInt = 0) : w.toInt = m_pk tb s.toNatClampNeg (min 6 m.toNatClampNeg) := by
  have e1 := dk_clN m
  rw [show min 6 m.toNatClampNeg = 0 by omega, hw]
  rfl
theorem m_pk_up {s a m m' x : Int32} {w w' y z : Int64} (h : w.toInt = m_pk tb s.toNatClampNeg (min 6 m.toNatClampNeg)) (hl : ∀ j : Nat, s.toNatClampNeg ≤ j → j < a.toNatClampNeg → t_l (tb j) = true) (kx : tb a.toNatClampNeg = x) (ha : a.toInt = s.toInt + m.toInt) (h0 : 0 ≤ s.toInt ∧ 0 ≤ m.toInt ∧ m.toInt ≤ 5) (hx : 0 ≤ x.toInt ∧ x.toInt ≤ 255) (ey : y = w <<< ((8 : Int32).toInt64 &&& 63)) (ez : x.toInt64 = z) (e : w' = y ||| z) (hm : m'.toInt = m.toInt + 1) : w'.toInt = m_pk tb s.toNatClampNeg (min 6 m'.toNatClampNeg) := by
  have e1 := dk_clN m
  have e2 := dk_clN m'
  have e3 := dk_clN s
  have e4 := dk_clN a
  rw [show min 6 m.toNatClampNeg = m.toNatClampNeg by omega] at h
  rw [show min 6 m'.toNatClampNeg = m.toNatClampNeg + 1 by omega]
  have b := m_pk_b (tb := tb) hl m.toNatClampNeg (by omega)
  have p : ∀ i : Nat, i ≤ 5 → (256 : Int) ^ i ≤ 1099511627776 := by decide
  have p1 := p m.toNatClampNeg (by omega)
  rw [e, ey, ← ez, m_lor (by omega) (by omega) hx, h]
  show _ = 256 * m_pk tb s.toNatClampNeg m.toNatClampNeg + (tb (s.toNatClampNeg + m.toNatClampNeg)).toInt
  rw [show s.toNatClampNeg + m.toNatClampNeg = a.toNatClampNeg by omega, kx]
theorem m_pk_st {s m m' : Int32} {w : Int64} (h : w.toInt = m_pk tb s.toNatClampNeg (min 6 m.toNatClampNeg)) (h6 : 6 ≤ m.toInt) (hm : m'.toInt = m.toInt + 1) : w.toInt = m_pk tb s.toNatClampNeg (min 6 m'.toNatClampNeg) := by
  have e1 := dk_clN m
  have e2 := dk_clN m'
  rw [h, show min 6 m.toNatClampNeg = 6 by omega, show min 6 m'.toNatClampNeg = 6 by omega]
theorem m_nu_z {s m v : Int32} (hm : m.toInt = 0) (hv : v.toInt = 0) : v.toInt = t_num tb s.toNatClampNeg (min 4 m.toNatClampNeg) := by
  have e1 := dk_clN m
  rw [show min 4 m.toNatClampNeg = 0 by omega, hv]
  rfl
theorem m_nu_up {s a m m' x v v' : Int32} (h : v.toInt = t_num tb s.toNatClampNeg (min 4 m.toNatClampNeg)) (kx : tb a.toNatClampNeg = x) (ha : a.toInt = s.toInt + m.toInt) (h0 : 0 ≤ s.toInt ∧ 0 ≤ m.toInt ∧ m.toInt ≤ 3) (e : v'.toInt = 10 * v.toInt + x.toInt - 48) (hm : m'.toInt = m.toInt + 1) : v'.toInt = t_num tb s.toNatClampNeg (min 4 m'.toNatClampNeg) := by
  have e1 := dk_clN m
  have e2 := dk_clN m'
  have e3 := dk_clN s
  have e4 := dk_clN a
  rw [show min 4 m.toNatClampNeg = m.toNatClampNeg by omega] at h
  rw [show min 4 m'.toNatClampNeg = m.toNatClampNeg + 1 by omega]
  show _ = 10 * t_num tb s.toNatClampNeg m.toNatClampNeg + ((tb (s.toNatClampNeg + m.toNatClampNeg)).toInt - 48)
  rw [show s.toNatClampNeg + m.toNatClampNeg = a.toNatClampNeg by omega, kx, ← h]
  omega
theorem m_nu_b {s a m v : Int32} (h : v.toInt = t_num tb s.toNatClampNeg (min 4 m.toNatClampNeg)) (hd : ∀ j : Nat, s.toNatClampNeg ≤ j → j < a.toNatClampNeg → t_d (tb j) = true) (ha : a.toInt = s.toInt + m.toInt) (h0 : 0 ≤ s.toInt ∧ 0 ≤ m.toInt ∧ m.toInt ≤ 3) : 0 ≤ v.toInt ∧ v.toInt ≤ 999 := by
  have e1 := dk_clN m
  have e3 := dk_clN s
  have e4 := dk_clN a
  rw [show min 4 m.toNatClampNeg = m.toNatClampNeg by omega] at h
  have b := t_num_b (tb := tb) (s := s.toNatClampNeg) m.toNatClampNeg fun j g1 g2 => hd j g1 (by omega)
  have p : ∀ i : Nat, i ≤ 3 → (10 : Int) ^ i ≤ 1000 := by decide
  have := p m.toNatClampNeg (by omega)
  omega
theorem m_nu_st {s m m' v : Int32} (h : v.toInt = t_num tb s.toNatClampNeg (min 4 m.toNatClampNeg)) (h4 : 4 ≤ m.toInt) (hm : m'.toInt = m.toInt + 1) : v.toInt = t_num tb s.toNatClampNeg (min 4 m'.toNatClampNeg) := by
  have e1 := dk_clN m
  have e2 := dk_clN m'
  rw [h, show min 4 m.toNatClampNeg = 4 by omega, show min 4 m'.toNatClampNeg = 4 by omega]
/-! at the end: what was found -/
theorem TNX.eod {at9 : Int32} (hs : t_sk tb n se.toNatClampNeg = at9.toNatClampNeg) (hn : n ≤ at9.toNatClampNeg) (f3 : S1.1 0 3 = .int sg) (f4 : S1.1 0 4 = .int at9) (f5 : S1.1 0 5 = .int at9) (f6 : S1.1 0 6 = .int va) (f7 : S1.1 0 7 = .long wd) (f12 : S1.1 0 12 = .int lx) (h3 : sg.toInt = 0) (h12 : lx.toInt = -1) : TNX tb n se S1 := fun k h1 h2 => by
  have e : t_s tb n k = at9.toNatClampNeg := h2.symm.trans hs
  have hq : ¬ t_s tb n k < n := by omega
  exact ⟨h1, sg, at9, at9, va, lx, wd, f3, f4, f5, f6, f7, f12, e.symm, by rw [t_P_e hq, e], k_tok.eod hq h3 h12⟩
theorem TNX.sgn {at9 se9 : Int32} (hs : t_sk tb n se.toNatClampNeg = at9.toNatClampNeg) (hn : at9.toNatClampNeg < n) (f3 : S1.1 0 3 = .int sg) (f4 : S1.1 0 4 = .int at9) (f5 : S1.1 0 5 = .int se9) (f6 : S1.1 0 6 = .int va) (f7 : S1.1 0 7 = .long wd) (f12 : S1.1 0 12 = .int lx) (h3 : sg.toInt = 3) (h12 : lx.toInt = -1) (h5 : se9.toInt = at9.toInt + 1) (h0 : 0 ≤ at9.toInt) (kx : tb at9.toNatClampNeg = va) (hl : ¬ (97 ≤ va.toInt ∧ va.toInt ≤ 122)) (hd : ¬ (48 ≤ va.toInt ∧ va.toInt ≤ 57)) : TNX tb n se S1 := fun k h1 h2 => by
  have e : t_s tb n k = at9.toNatClampNeg := h2.symm.trans hs
  have e1 := dk_clN at9
  have e2 := dk_clN se9
  have hq : t_s tb n k < n := by omega
  exact ⟨h1, sg, at9, se9, va, lx, wd, f3, f4, f5, f6, f7, f12, e.symm, by rw [t_P_s hq, e, t_en_sign (by rw [kx]; exact t_l_f hl) (by rw [kx]; exact t_d_f hd)]; omega, k_tok.sgn hq h3 h12 (by rw [e]; exact kx) (t_l_f hl) (t_d_f hd)⟩
theorem TNX.wrd {at9 se9 m mo : Int32} (hn16 : n ≤ 1600) (hs : t_sk tb n se.toNatClampNeg = at9.toNatClampNeg) (hn : at9.toNatClampNeg < n) (f3 : S1.1 0 3 = .int sg) (f4 : S1.1 0 4 = .int at9) (f5 : S1.1 0 5 = .int se9) (f6 : S1.1 0 6 = .int va) (f7 : S1.1 0 7 = .long wd) (f12 : S1.1 0 12 = .int lx) (h3 : sg.toInt = 1) (h5 : at9.toInt < se9.toInt) (h5n : se9.toNatClampNeg ≤ n) (h0 : 0 ≤ at9.toInt) (hm : se9.toInt = at9.toInt + m.toInt) (hl : ∀ j : Nat, at9.toNatClampNeg ≤ j → j < se9.toNatClampNeg → t_l (tb j) = true) (he : t_wd tb n se9.toNatClampNeg = false) (hx : lx.toInt ≠ -1 ↔ (t_adj tb at9.toNatClampNeg = true ∨ mo.toInt < m.toInt)) (hmo : mo.toInt = 6) (hw : wd.toInt = m_pk tb at9.toNatClampNeg (min 6 m.toNatClampNeg)) : TNX tb n se S1 := fun k h1 h2 => by
  have e : t_s tb n k = at9.toNatClampNeg := h2.symm.trans hs
  have e1 := dk_clN at9
  have e2 := dk_clN se9
  have e3 := dk_clN m
  have hq : t_s tb n k < n := by omega
  have hP : t_P tb n (k + 1) = se9.toNatClampNeg := by rw [t_P_s hq, e, t_en_word hn16 (by omega) h5n hl he]
  refine ⟨h1, sg, at9, se9, va, lx, wd, f3, f4, f5, f6, f7, f12, e.symm, hP.symm, k_tok.wrd (m := m.toNatClampNeg) hq h3 (by omega) (by rw [e, hP]; exact hl) (by omega) ?_ (fun q => ?_)⟩
  · rw [e, hx]
    constructor
    · rintro (a | a)
      · exact Or.inl a
      · exact Or.inr (by omega)
    · rintro (a | a)
      · exact Or.inl a
      · exact Or.inr (by omega)
  · rw [e, hw, show min 6 m.toNatClampNeg = m.toNatClampNeg by omega]
theorem TNX.num {at9 se9 m mo : Int32} (hn16 : n ≤ 1600) (hs : t_sk tb n se.toNatClampNeg = at9.toNatClampNeg) (hn : at9.toNatClampNeg < n) (f3 : S1.1 0 3 = .int sg) (f4 : S1.1 0 4 = .int at9) (f5 : S1.1 0 5 = .int se9) (f6 : S1.1 0 6 = .int va) (f7 : S1.1 0 7 = .long wd) (f12 : S1.1 0 12 = .int lx) (h3 : sg.toInt = 2) (h5 : at9.toInt < se9.toInt) (h5n : se9.toNatClampNeg ≤ n) (h0 : 0 ≤ at9.toInt) (hm : se9.toInt = at9.toInt + m.toInt) (hl : ∀ j : Nat, at9.toNatClampNeg ≤ j → j < se9.toNatClampNeg → t_d (tb j) = true) (he : t_nm tb n se9.toNatClampNeg = false) (hx : lx.toInt ≠ -1 ↔ (t_adj tb at9.toNatClampNeg = true ∨ mo.toInt < m.toInt)) (hmo : mo.toInt = 4) (hw : va.toInt = t_num tb at9.toNatClampNeg (min 4 m.toNatClampNeg)) : TNX tb n se S1 := fun k h1 h2 => by
  have e : t_s tb n k = at9.toNatClampNeg := h2.symm.trans hs
  have e1 := dk_clN at9
  have e2 := dk_clN se9
  have e3 := dk_clN m
  have hq : t_s tb n k < n := by omega
  have hP : t_P tb n (k + 1) = se9.toNatClampNeg := by rw [t_P_s hq, e, t_en_numb hn16 (by omega) h5n hl he]
  refine ⟨h1, sg, at9, se9, va, lx, wd, f3, f4, f5, f6, f7, f12, e.symm, hP.symm, k_tok.num (m := m.toNatClampNeg) hq h3 (by rw [e]; exact hl _ (Nat.le_refl _) (by omega)) (by omega) ?_ (fun q => ?_)⟩
  · rw [e, hx]
    constructor
    · rintro (a | a)
      · exact Or.inl a
      · exact Or.inr (by omega)
    · rintro (a | a)
      · exact Or.inl a
      · exact Or.inr (by omega)
  · rw [e, hw, show min 4 m.toNatClampNeg = m.toNatClampNeg by omega]
end TKS
end
section
/-! the reference's fault, as an answer: none where it is 0 -/
def m_an (f : Int32) (E : Option Nat) (k' : Nat) : Prop := (f.toInt = 0 → E = some k') ∧ (f.toInt ≠ 0 → E = none)
section MU9
variable {tb : Nat → Int32} {n k k' : Nat} {S : dg_S} {kd vl : Nat → Int32} {sg sa se va lx fk r : Int32} {c lo hi : Int} {E : Option Nat}
theorem m_an.y (h : fk.toInt = 0) (e : E = some k') : m_an fk E k' := ⟨fun _ => e, fun q => absurd h q⟩
theorem m_an.no (h : fk.toInt ≠ 0) (e : E = none) : m_an fk E k' := ⟨fun q => absurd q h, fun _ => e⟩
theorem MU.y {P : Prop} (hs : g_s kd vl c k = true ↔ P) (h : P) (h8 : fk.toInt = 0) (hK : k' = k + 1) : m_an fk (g_tk kd vl c k) k' :=
  m_an.y h8 (by unfold g_tk; rw [if_pos (hs.mpr h), hK])
theorem g_s_5 (h : (kd k).toInt = 5) : g_s kd vl c k = false := by
  cases q : g_s kd vl c k with
  | false => rfl
  | true => exact absurd (g_s_iff.mp q).1 (by omega)
theorem g_o_5 (h : (kd k).toInt = 5) : g_o kd vl c k = false := by
  cases q : g_o kd vl c k with
  | false => rfl
  | true => exact absurd (g_o_iff.mp q).1 (by omega)
theorem MU.no {P : Prop} (hs : (kd k).toInt ≠ 5 → (g_s kd vl c k = true ↔ P)) (h : (kd k).toInt ≠ 5 → ¬ P) (h8 : fk.toInt ≠ 0) : m_an fk (g_tk kd vl c k) k' := by
  refine m_an.no h8 ?_
  unfold g_tk
  by_cases q : (kd k).toInt = 5
  · rw [g_s_5 q]; rfl
  · rw [if_neg (fun z => h q ((hs q).mp z))]
theorem MW9.y {P : Prop} (hs : P ↔ g_o kd vl c k = true) (h : P) (h8 : fk.toInt = 0) (hK : k' = k + 1) : m_an fk (y_own kd vl c k) k' :=
  m_an.y h8 (by unfold y_own; rw [if_pos (hs.mp h), hK])
theorem MW9.no {P : Prop} (hs : (kd k).toInt ≠ 5 → (P ↔ g_o kd vl c k = true)) (h : (kd k).toInt ≠ 5 → ¬ P) (h8 : fk.toInt ≠ 0) : m_an fk (y_own kd vl c k) k' := by
  refine m_an.no h8 ?_
  unfold y_own
  by_cases q : (kd k).toInt = 5
  · rw [g_o_5 q]; rfl
  · rw [if_neg (fun z => h q ((hs q).mpr z))]
theorem NU.y {P : Prop} (hs : ((kd k).toInt = 3 ↔ P) ∧ (P → va.toInt = (vl k).toInt)) (h : P) (h1 : lo ≤ va.toInt) (h2 : va.toInt ≤ hi) (h8 : fk.toInt = 0) (hK : k' = k + 1) (hr : r.toInt = va.toInt) : m_an fk (y_num kd vl lo hi k) k' ∧ (fk.toInt = 0 → r.toInt = (vl k).toInt) := by
  have e := hs.2 h
  exact ⟨m_an.y h8 (by rw [hK]; exact y_num_t (hs.1.mpr h) (by omega) (by omega)), fun _ => by omega⟩
theorem NU.no {P : Prop} (hs : (kd k).toInt ≠ 5 → ((kd k).toInt = 3 ↔ P) ∧ (P → va.toInt = (vl k).toInt)) (h : (kd k).toInt ≠ 5 → ¬ (P ∧ lo ≤ va.toInt ∧ va.toInt ≤ hi)) (h8 : fk.toInt ≠ 0) : m_an fk (y_num kd vl lo hi k) k' ∧ (fk.toInt = 0 → r.toInt = (vl k).toInt) := by
  refine ⟨m_an.no h8 (y_num_f ?_), fun q => absurd q h8⟩
  by_cases q : (kd k).toInt = 5
  · exact Or.inl (by omega)
  · obtain ⟨a, b⟩ := hs q
    have h9 := h q
    by_cases z : P
    · have e := b z
      refine Or.inr ?_
      by_cases w : (vl k).toInt < lo
      · exact Or.inl w
      · refine Or.inr ?_
        by_cases w2 : hi < (vl k).toInt
        · exact w2
        · exact absurd ⟨z, by omega, by omega⟩ h9
    · exact Or.inl fun w => z (a.mp w)
/-- isWord's answer, isSign's -/
theorem TKM.isw (h : TKM tb n S) (f3 : S.1 0 3 = .int sg) (f4 : S.1 0 4 = .int sa) (h5 : (T_kd tb n (t_ix tb n sa.toNatClampNeg)).toInt ≠ 5) {j : Int} {C : Int64} (hj : 0 ≤ j ∧ j ≤ 26) (hC : C.toInt = m_cw j) (hr : ∀ w9 : Int64, S.1 0 7 = .long w9 → (r.toInt = 1 ↔ (sg.toInt = 1 ∧ w9.toInt = C.toInt))) : r.toInt = 1 ↔ g_o (T_kd tb n) (T_vl tb n) j (t_ix tb n sa.toNatClampNeg) = true := by
  have h0 := h
  obtain ⟨-, k, a, sg', sa', se', va', lx', wd', g3, g4, g5, g6, g7, g12, e1, e2, e3⟩ := h
  have w := h0.wrd f3 f4 g7 h5 (j := j.toNat) (by omega)
  rw [hr wd' g7, hC]
  unfold m_cw
  rw [← w, show ((j.toNat : Nat) : Int) = j by omega]
theorem TKM.iss (h : TKM tb n S) (f3 : S.1 0 3 = .int sg) (f4 : S.1 0 4 = .int sa) (f6 : S.1 0 6 = .int va) (h5 : (T_kd tb n (t_ix tb n sa.toNatClampNeg)).toInt ≠ 5) (hr : r.toInt = 1 ↔ (sg.toInt = 3 ∧ va.toInt = c)) : r.toInt = 1 ↔ g_s (T_kd tb n) (T_vl tb n) c (t_ix tb n sa.toNatClampNeg) = true := hr.trans (h.sgn f3 f4 f6 h5).symm
/-! OWN WORDS, all of them -/
def m_ow (v : Int) : Bool := (List.range 27).any (fun j => decide (v = m_WF (m_WL j)))
theorem m_ow_ex {v : Int} : m_ow v = true ↔ ∃ j : Nat, j < 27 ∧ v = m_WF (m_WL j) := by
  unfold m_ow
  rw [List.any_eq_true]
  constructor
  · rintro ⟨j, hj, e⟩
    exact ⟨j, List.mem_range.mp hj, of_decide_eq_true e⟩
  · rintro ⟨j, hj, e⟩
    exact ⟨j, List.mem_range.mpr hj, decide_eq_true e⟩
def m_tab : List Int := (List.range 27).map fun j => m_WF (m_WL j)
theorem m_ow_tab {v : Int} : m_ow v = true ↔ v ∈ m_tab := by
  rw [m_ow_ex]
  unfold m_tab
  rw [List.mem_map]
  constructor
  · rintro ⟨j, hj, e⟩
    exact ⟨j, List.mem_range.mpr hj, e.symm⟩
  · rintro ⟨j, hj, e⟩
    exact ⟨j, List.mem_range.mp hj, e.symm⟩
theorem m_tab_eq : m_tab = [1936023917, 25209, 495672452724, 491327153000, 487300623205, 444300616805, 469920277874, 6580583, 24948, 478660552050, 1953849971, 1885436275, 126926742711411, 439721159795, 1734702195, 431198598248, 495672977012, 6709618, 1869636974, 7104884, 26982, 28530, 6385252, 7237492, 6384748, 7170414, 7168376] := by decide +kernel
/-! names in rows -/
def m_nm (row : Nat → Int64) (off m : Nat) : List Int := (List.range m).map fun j => m_WG (row (off + j)).toInt
def m_nok (row : Nat → Int64) (off m : Nat) : Prop := ∀ j : Nat, j < m → m_WF (m_WG (row (off + j)).toInt) = (row (off + j)).toInt
theorem m_nm_has {row : Nat → Int64} {off m : Nat} {p v : Int} (hk : m_nok row off m) (hp : p = m_WF v) (hv : m_WG p = v) : (m_nm row off m).contains v = true ↔ ∃ j : Nat, j < m ∧ (row (off + j)).toInt = p := by
  unfold m_nm
  rw [List.contains_iff_mem, List.mem_map]
  constructor
  · rintro ⟨j, hj, e⟩
    have hj := List.mem_range.mp hj
    exact ⟨j, hj, by rw [← hk j hj, e, hp]⟩
  · rintro ⟨j, hj, e⟩
    exact ⟨j, List.mem_range.mpr hj, by rw [e, hv]⟩
theorem nm_stp (row : Nat → Int64) {o : Nat} {v : Int} {k k' : Int32} (h : ∀ j : Nat, j < k.toNatClampNeg → (row (o + j)).toInt ≠ v) (hk : (row (o + k.toNatClampNeg)).toInt ≠ v) (e : k'.toInt = k.toInt + 1) (h0 : 0 ≤ k.toInt) : ∀ j : Nat, j < k'.toNatClampNeg → (row (o + j)).toInt ≠ v := fun j hj => by
  have e1 := dk_clN k
  have e2 := dk_clN k'
  by_cases q : j = k.toNatClampNeg
  · rw [q]
    exact hk
  · exact h j (by omega)
theorem m_nm_len {row : Nat → Int64} {off m : Nat} : (m_nm row off m).length = m := by
  unfold m_nm
  rw [List.length_map, List.length_range]
theorem m_nm_congr {row row' : Nat → Int64} {off m : Nat} (h : ∀ j, j < m → row' (off + j) = row (off + j)) : m_nm row' off m = m_nm row off m := by
  unfold m_nm
  exact List.map_congr_left fun j hj => by rw [h j (List.mem_range.mp hj)]
theorem m_nm_add {row row' : Nat → Int64} {off m : Nat} {v : Int64} (h : ∀ j, j < m → row' (off + j) = row (off + j)) (e : row' (off + m) = v) : m_nm row' off (m + 1) = m_nm row off m ++ [m_WG v.toInt] := by
  have e1 := m_nm_congr h
  unfold m_nm at e1 ⊢
  rw [List.range_succ, List.map_append, e1]
  show _ ++ [m_WG (row' (off + m)).toInt] = _
  rw [e]
end MU9
end
section
/-! what the reference has been told -/
def GSv (S : dg_S) (i : Nat) : y_S := (((S.2.1 2 i).toInt, (S.2.1 3 i).toInt), m_nm (S.2.2 20) (6 * i) (S.2.1 8 i).toNatClampNeg, (S.2.1 9 i).toNatClampNeg, m_nm (S.2.2 21) (5 * i) (S.2.1 12 i).toNatClampNeg, (decide ((S.2.1 16 (3 * i)).toInt ≠ -1), decide ((S.2.1 16 (3 * i + 1)).toInt ≠ -1), decide ((S.2.1 16 (3 * i + 2)).toInt ≠ -1)))
def GSM (σ : y_S) (S : dg_S) : Prop := ∃ i : Int32, S.1 0 35 = .int i ∧ 0 ≤ i.toInt ∧ σ = GSv S i.toNatClampNeg ∧ m_nok (S.2.2 20) (6 * i.toNatClampNeg) (S.2.1 8 i.toNatClampNeg).toNatClampNeg ∧ m_nok (S.2.2 21) (5 * i.toNatClampNeg) (S.2.1 12 i.toNatClampNeg).toNatClampNeg
section GSS
variable {σ σ' : y_S} {S S1 : dg_S} {WF : List (Nat × Nat)} {WA : List Nat} {ii mi od pl cc rr fk f1 f2 : Int32} {tb : Nat → Int32} {n k k1 k2 : Nat} {kd vl : Nat → Int32}
theorem GSM.keep (h : GSM σ S) (m : dg_sm shM WF WA S S1) (h35 : (0, 35) ∉ WF) (k2 : 2 ∉ WA) (k3 : 3 ∉ WA) (k8 : 8 ∉ WA) (k9 : 9 ∉ WA) (k12 : 12 ∉ WA) (k16 : 16 ∉ WA) (k20 : 20 ∉ WA) (k21 : 21 ∉ WA) : GSM σ S1 := by
  obtain ⟨i, f, b, e, o1, o2⟩ := h
  refine ⟨i, (m.1 0 35 _ sM_0 h35).trans f, b, ?_, ?_, ?_⟩
  · rw [e]
    unfold GSv
    rw [(m.2 2 _ sM_2 k2).1, (m.2 3 _ sM_3 k3).1, (m.2 8 _ sM_8 k8).1, (m.2 9 _ sM_9 k9).1, (m.2 12 _ sM_12 k12).1, (m.2 16 _ sM_16 k16).1, (m.2 20 _ sM_20 k20).2, (m.2 21 _ sM_21 k21).2]
  · rw [(m.2 8 _ sM_8 k8).1, (m.2 20 _ sM_20 k20).2]
    exact o1
  · rw [(m.2 12 _ sM_12 k12).1, (m.2 21 _ sM_21 k21).2]
    exact o2
theorem GSM.at (h : GSM σ S) (fi : S.1 0 35 = .int ii) : 0 ≤ ii.toInt ∧ σ = GSv S ii.toNatClampNeg ∧ m_nok (S.2.2 20) (6 * ii.toNatClampNeg) (S.2.1 8 ii.toNatClampNeg).toNatClampNeg ∧ m_nok (S.2.2 21) (5 * ii.toNatClampNeg) (S.2.1 12 ii.toNatClampNeg).toNatClampNeg := by
  obtain ⟨i, f, r⟩ := h
  cases fi.symm.trans f
  exact r
theorem GSM.cols (h : GSM σ S) (fi : S.1 0 35 = .int ii) (fc : S.2.1 2 ii.toNatClampNeg = cc) (fr : S.2.1 3 ii.toNatClampNeg = rr) : σ.1 = (cc.toInt, rr.toInt) := by
  obtain ⟨-, e, -⟩ := h.at fi
  rw [e]
  unfold GSv
  rw [fc, fr]
theorem GSM.miners (h : GSM σ S) (fi : S.1 0 35 = .int ii) (fm : S.2.1 8 ii.toNatClampNeg = mi) : σ.2.1.length = mi.toNatClampNeg := by
  obtain ⟨-, e, -⟩ := h.at fi
  rw [e]
  unfold GSv
  rw [fm]
  exact m_nm_len
theorem GSM.plans (h : GSM σ S) (fi : S.1 0 35 = .int ii) (fp : S.2.1 9 ii.toNatClampNeg = pl) : σ.2.2.1 = pl.toNatClampNeg := by
  obtain ⟨-, e, -⟩ := h.at fi
  rw [e]
  unfold GSv
  rw [fp]
theorem GSM.orders (h : GSM σ S) (fi : S.1 0 35 = .int ii) (fo : S.2.1 12 ii.toNatClampNeg = od) : σ.2.2.2.1.length = od.toNatClampNeg := by
  obtain ⟨-, e, -⟩ := h.at fi
  rw [e]
  unfold GSv
  rw [fo]
  exact m_nm_len
/-- a name among the MINERS', among all -/
theorem GSM.miner (h : GSM σ S) (fi : S.1 0 35 = .int ii) (fm : S.2.1 8 ii.toNatClampNeg = mi) {p v : Int} (hp : p = m_WF v) (hv : m_WG p = v) : σ.2.1.contains v = true ↔ ∃ j : Nat, j < mi.toNatClampNeg ∧ (S.2.2 20 (6 * ii.toNatClampNeg + j)).toInt = p := by
  obtain ⟨-, e, o1, -⟩ := h.at fi
  rw [e]
  unfold GSv
  rw [fm] at o1 ⊢
  exact m_nm_has o1 hp hv
theorem GSM.named (h : GSM σ S) (fi : S.1 0 35 = .int ii) (fm : S.2.1 8 ii.toNatClampNeg = mi) (fo : S.2.1 12 ii.toNatClampNeg = od) {p v : Int} (hp : p = m_WF v) (hv : m_WG p = v) : (σ.2.1.contains v || σ.2.2.2.1.contains v) = true ↔ ((∃ j : Nat, j < od.toNatClampNeg ∧ (S.2.2 21 (5 * ii.toNatClampNeg + j)).toInt = p) ∨ ∃ j : Nat, j < mi.toNatClampNeg ∧ (S.2.2 20 (6 * ii.toNatClampNeg + j)).toInt = p) := by
  have a := h.miner fi fm hp hv
  obtain ⟨-, e, -, o2⟩ := h.at fi
  have b : σ.2.2.2.1.contains v = true ↔ ∃ j : Nat, j < od.toNatClampNeg ∧ (S.2.2 21 (5 * ii.toNatClampNeg + j)).toInt = p := by
    rw [e]
    unfold GSv
    rw [fo] at o2 ⊢
    exact m_nm_has o2 hp hv
  rw [Bool.or_eq_true, a, b]
  exact Or.comm
/-- two NUMBERS: a cell -/
theorem CE (h1 : f1.toInt = 0 → m_an f1 (y_num kd vl 0 (cc.toInt - 1) k) k1) (h2 : f1.toInt = 0 → m_an f2 (y_num kd vl 0 (rr.toInt - 1) k1) k2) (h3 : f1.toInt ≠ 0 → f2.toInt ≠ 0) (h4 : f1.toInt ≠ 0 → y_num kd vl 0 (cc.toInt - 1) k = none) : m_an f2 (y_cell kd vl (cc.toInt, rr.toInt) k) k2 := by
  unfold y_cell
  by_cases q : f1.toInt = 0
  · have a := (h1 q).1 q
    rw [a]
    exact h2 q
  · rw [h4 q]
    exact m_an.no (h3 q) rfl
theorem CE2 {hi hi2 : Int} (h1 : m_an f1 (y_num kd vl 0 hi k) k1) (h2 : f1.toInt = 0 → m_an f2 (y_num kd vl 0 hi2 k1) k2) (h3 : f1.toInt ≠ 0 → f2.toInt ≠ 0) (e1 : hi = cc.toInt - 1) (e2 : hi2 = rr.toInt - 1) : m_an f2 (y_cell kd vl (cc.toInt, rr.toInt) k) k2 := by
  rw [e1] at h1
  rw [e2] at h2
  exact CE (fun _ => h1) h2 h3 h1.2
/-- a name to be given -/
theorem FRE {sg sa : Int32} {wd : Int64} (TK : TKM tb n S) (G : GSM σ S) (f3 : S.1 0 3 = .int sg) (f4 : S.1 0 4 = .int sa) (f7 : S.1 0 7 = .long wd) (h5 : (T_kd tb n (t_ix tb n sa.toNatClampNeg)).toInt ≠ 5) : (sg.toInt = 1 ∧ ¬ m_ow wd.toInt = true ↔ (T_kd tb n (t_ix tb n sa.toNatClampNeg)).toInt = 2) ∧ ((T_kd tb n (t_ix tb n sa.toNatClampNeg)).toInt = 2 → wd.toInt = m_WF (T_vl tb n (t_ix tb n sa.toNatClampNeg)).toInt ∧ m_WG wd.toInt = (T_vl tb n (t_ix tb n sa.toNatClampNeg)).toInt) := by
  obtain ⟨a, b⟩ := TK.nam f3 f4 f7 h5
  refine ⟨?_, b⟩
  rw [a, m_ow_ex]
  constructor
  · rintro ⟨c, d⟩
    exact ⟨c, fun j hj e => d ⟨j, hj, e⟩⟩
  · rintro ⟨c, d⟩
    exact ⟨c, fun ⟨j, hj, e⟩ => d j hj e⟩
theorem FR.y {M O : List Int} {v : Int} {N : Prop} (h2 : (kd k).toInt = 2) (hv : (vl k).toInt = v) (hn : (M.contains v || O.contains v) = true ↔ N) (h : ¬ N) (h8 : fk.toInt = 0) (hK : k1 = k + 1) : m_an fk (y_new kd vl M O k) k1 :=
  m_an.y h8 (by
    rw [hK]
    refine y_new_t h2 hv ?_
    cases q : (M.contains v || O.contains v) with
    | false => rfl
    | true => exact absurd (hn.mp q) h)
theorem FR.no2 {M O : List Int} (h : (kd k).toInt ≠ 2) (h8 : fk.toInt ≠ 0) : m_an fk (y_new kd vl M O k) k1 := m_an.no h8 (y_new_f h)
theorem FR.no3 {M O : List Int} {v : Int} {N : Prop} (hv : (vl k).toInt = v) (hn : (M.contains v || O.contains v) = true ↔ N) (h : N) (h8 : fk.toInt ≠ 0) : m_an fk (y_new kd vl M O k) k1 := m_an.no h8 (y_new_f2 hv (hn.mpr h))
/-! what a STATEMENT's method comes to -/
def SOK (tb : Nat → Int32) (n : Nat) (fk : Int32) (T : Option (y_S × Nat)) (S' : dg_S) : Prop := fk.toInt = 0 → ∀ f a : Int32, S'.1 0 8 = .int f → S'.1 0 4 = .int a → (f.toInt = 0 → ∃ σ' : y_S, GSM σ' S' ∧ T = some (σ', t_ix tb n a.toNatClampNeg)) ∧ (f.toInt ≠ 0 → T = none ∨ ∃ (σ' : y_S) (k' : Nat), T = some (σ', k') ∧ (T_kd tb n k').toInt = 5)
theorem m_an.bind {E : Option Nat} {g : Nat → Option Nat} (h1 : m_an f1 E k1) (h2 : f1.toInt = 0 → m_an f2 (g k1) k2) (h3 : f1.toInt ≠ 0 → f2.toInt ≠ 0) : m_an f2 (E.bind g) k2 := by
  by_cases q : f1.toInt = 0
  · rw [h1.1 q]
    exact h2 q
  · rw [h1.2 q]
    exact m_an.no (h3 q) rfl
theorem m_an.to {E E' : Option Nat} (h : m_an fk E k) (e : E' = E) : m_an fk E' k := by
  rw [e]
  exact h
theorem SOK.mk {y8 y4 : Int32} {T : Option (y_S × Nat)} {P : Prop} [Decidable P] {E : Option Nat} (p8 : S1.1 0 8 = .int y8) (p4 : S1.1 0 4 = .int y4) (hp : fk.toInt = 0 → P → y8.toInt ≠ 0) (hE : fk.toInt = 0 → ¬ P → m_an y8 E (t_ix tb n y4.toNatClampNeg)) (hG : fk.toInt = 0 → y8.toInt = 0 → ¬ P → GSM σ' S1) (hT : T = if P then none else E.map fun k' => (σ', k')) : SOK tb n fk T S1 := by
  intro h0 f a q8 q4
  cases p8.symm.trans q8
  cases p4.symm.trans q4
  by_cases z : P
  · rw [hT, if_pos z]
    exact ⟨fun q => absurd q (hp h0 z), fun _ => Or.inl rfl⟩
  · have e := hE h0 z
    rw [hT, if_neg z]
    refine ⟨fun q => ⟨σ', hG h0 q z, by rw [e.1 q]; rfl⟩, fun q => Or.inl (by rw [e.2 q]; rfl)⟩
theorem SOK.mk0 {y8 y4 : Int32} {T : Option (y_S × Nat)} {E : Option Nat} (p8 : S1.1 0 8 = .int y8) (p4 : S1.1 0 4 = .int y4) (hE : fk.toInt = 0 → m_an y8 E (t_ix tb n y4.toNatClampNeg)) (hG : fk.toInt = 0 → y8.toInt = 0 → GSM σ' S1) (hT : T = E.map fun k' => (σ', k')) : SOK tb n fk T S1 :=
  SOK.mk (P := False) p8 p4 (fun _ q => absurd q id) (fun h _ => hE h) (fun h q _ => hG h q) (by rw [hT, if_neg id])
/-! what is written -/
theorem vpL_at {f : Nat → Int64} {k : Nat} {v : Int64} : vp_updL f k v k = v := by
  unfold vp_updL
  simp
theorem vpL_ne {f : Nat → Int64} {k j : Nat} {v : Int64} (h : j ≠ k) : vp_updL f k v j = f j := by
  unfold vp_updL
  simp [h]
theorem GSM.w20 {x : Int32} {v : Int64} (G : GSM σ S) (fi : S.1 0 35 = .int ii) (fm : S.2.1 8 ii.toNatClampNeg = mi) (e : S1 = dg_ul S 20 (vp_updL (S.2.2 20) x.toNatClampNeg v)) (hx : x.toInt = 6 * ii.toInt + mi.toInt) (hm : 0 ≤ mi.toInt) : GSM σ S1 ∧ S1.2.2 20 (6 * ii.toNatClampNeg + mi.toNatClampNeg) = v := by
  obtain ⟨h0, e0, o1, o2⟩ := G.at fi
  have c1 := dk_clN ii
  have c2 := dk_clN mi
  have c3 := dk_clN x
  have e20 : S1.2.2 20 = vp_updL (S.2.2 20) x.toNatClampNeg v := dg_ul_at e
  have e21 : S1.2.2 21 = S.2.2 21 := dg_ul_ne e (by decide)
  have ef : ∀ a, S1.2.1 a = S.2.1 a := dg_ul_f e
  have st : ∀ j, j < mi.toNatClampNeg → S1.2.2 20 (6 * ii.toNatClampNeg + j) = S.2.2 20 (6 * ii.toNatClampNeg + j) := fun j hj => by rw [e20, vpL_ne (by omega)]
  refine ⟨⟨ii, (dg_ul_F e 0 35).trans fi, h0, ?_, ?_, ?_⟩, ?_⟩
  · rw [e0]
    unfold GSv
    rw [ef 2, ef 3, ef 8, ef 9, ef 12, ef 16, e21, fm, m_nm_congr st]
  · rw [ef 8, fm]
    rw [fm] at o1
    intro j hj
    rw [st j hj]
    exact o1 j hj
  · rw [ef 12, e21]
    exact o2
  · rw [e20, show 6 * ii.toNatClampNeg + mi.toNatClampNeg = x.toNatClampNeg by omega, vpL_at]
theorem GSM.w21 {x : Int32} {v : Int64} (G : GSM σ S) (fi : S.1 0 35 = .int ii) (fo : S.2.1 12 ii.toNatClampNeg = od) (e : S1 = dg_ul S 21 (vp_updL (S.2.2 21) x.toNatClampNeg v)) (hx : x.toInt = 5 * ii.toInt + od.toInt) (hm : 0 ≤ od.toInt) : GSM σ S1 ∧ S1.2.2 21 (5 * ii.toNatClampNeg + od.toNatClampNeg) = v := by
  obtain ⟨h0, e0, o1, o2⟩ := G.at fi
  have c1 := dk_clN ii
  have c2 := dk_clN od
  have c3 := dk_clN x
  have e21 : S1.2.2 21 = vp_updL (S.2.2 21) x.toNatClampNeg v := dg_ul_at e
  have e20 : S1.2.2 20 = S.2.2 20 := dg_ul_ne e (by decide)
  have ef : ∀ a, S1.2.1 a = S.2.1 a := dg_ul_f e
  have st : ∀ j, j < od.toNatClampNeg → S1.2.2 21 (5 * ii.toNatClampNeg + j) = S.2.2 21 (5 * ii.toNatClampNeg + j) := fun j hj => by rw [e21, vpL_ne (by omega)]
  refine ⟨⟨ii, (dg_ul_F e 0 35).trans fi, h0, ?_, ?_, ?_⟩, ?_⟩
  · rw [e0]
    unfold GSv
    rw [ef 2, ef 3, ef 8, ef 9, ef 12, ef 16, e20, fo, m_nm_congr st]
  · rw [ef 8, e20]
    exact o1
  · rw [ef 12, fo]
    rw [fo] at o2
    intro j hj
    rw [st j hj]
    exact o2 j hj
  · rw [e21, show 5 * ii.toNatClampNeg + od.toNatClampNeg = x.toNatClampNeg by omega, vpL_at]
theorem m_nok_add {row : Nat → Int64} {off m : Nat} (h : m_nok row off m) (h2 : m_WF (m_WG (row (off + m)).toInt) = (row (off + m)).toInt) : m_nok row off (m + 1) := fun j hj => by
  by_cases q : j = m
  · rw [q]; exact h2
  · exact h j (by omega)
theorem GSM.c8 {mi' : Int32} {v : Int64} (G : GSM σ S) (fi : S.1 0 35 = .int ii) (fm : S.2.1 8 ii.toNatClampNeg = mi) (hv : S.2.2 20 (6 * ii.toNatClampNeg + mi.toNatClampNeg) = v) (hk : m_WF (m_WG v.toInt) = v.toInt) (e : S1 = dg_uf S 8 (upd (S.2.1 8) ii.toNatClampNeg mi')) (hm : mi'.toInt = mi.toInt + 1) (h0m : 0 ≤ mi.toInt) : GSM (σ.1, σ.2.1 ++ [m_WG v.toInt], σ.2.2) S1 := by
  obtain ⟨h0, e0, o1, o2⟩ := G.at fi
  have c2 := dk_clN mi
  have c3 := dk_clN mi'
  have e8 : S1.2.1 8 = upd (S.2.1 8) ii.toNatClampNeg mi' := dg_uf_at e
  have e8i : S1.2.1 8 ii.toNatClampNeg = mi' := by rw [e8, y_upd_at]
  have el : ∀ a, S1.2.2 a = S.2.2 a := dg_uf_l e
  have mm : mi'.toNatClampNeg = mi.toNatClampNeg + 1 := by omega
  rw [fm] at o1
  refine ⟨ii, (dg_uf_F e 0 35).trans fi, h0, ?_, ?_, ?_⟩
  · rw [e0]
    unfold GSv
    rw [e8i, fm, mm, dg_uf_ne e (a := 2) (by decide), dg_uf_ne e (a := 3) (by decide), dg_uf_ne e (a := 9) (by decide), dg_uf_ne e (a := 12) (by decide), dg_uf_ne e (a := 16) (by decide), el 21, m_nm_add (row := S.2.2 20) (row' := S1.2.2 20) (v := v) (fun j _ => by rw [el 20]) (by rw [el 20]; exact hv)]
  · rw [e8i, mm, el 20]
    exact m_nok_add o1 (by rw [hv]; exact hk)
  · rw [dg_uf_ne e (a := 12) (by decide), el 21]
    exact o2
theorem GSM.c12 {od' : Int32} {v : Int64} (G : GSM σ S) (fi : S.1 0 35 = .int ii) (fo : S.2.1 12 ii.toNatClampNeg = od) (hv : S.2.2 21 (5 * ii.toNatClampNeg + od.toNatClampNeg) = v) (hk : m_WF (m_WG v.toInt) = v.toInt) (e : S1 = dg_uf S 12 (upd (S.2.1 12) ii.toNatClampNeg od')) (hm : od'.toInt = od.toInt + 1) (h0m : 0 ≤ od.toInt) : GSM (σ.1, σ.2.1, σ.2.2.1, σ.2.2.2.1 ++ [m_WG v.toInt], σ.2.2.2.2) S1 := by
  obtain ⟨h0, e0, o1, o2⟩ := G.at fi
  have c2 := dk_clN od
  have c3 := dk_clN od'
  have e8 : S1.2.1 12 = upd (S.2.1 12) ii.toNatClampNeg od' := dg_uf_at e
  have e8i : S1.2.1 12 ii.toNatClampNeg = od' := by rw [e8, y_upd_at]
  have el : ∀ a, S1.2.2 a = S.2.2 a := dg_uf_l e
  have mm : od'.toNatClampNeg = od.toNatClampNeg + 1 := by omega
  rw [fo] at o2
  refine ⟨ii, (dg_uf_F e 0 35).trans fi, h0, ?_, ?_, ?_⟩
  · rw [e0]
    unfold GSv
    rw [e8i, fo, mm, dg_uf_ne e (a := 2) (by decide), dg_uf_ne e (a := 3) (by decide), dg_uf_ne e (a := 8) (by decide), dg_uf_ne e (a := 9) (by decide), dg_uf_ne e (a := 16) (by decide), el 20, m_nm_add (row := S.2.2 21) (row' := S1.2.2 21) (v := v) (fun j _ => by rw [el 21]) (by rw [el 21]; exact hv)]
  · rw [dg_uf_ne e (a := 8) (by decide), el 20]
    exact o1
  · rw [e8i, mm, el 21]
    exact m_nok_add o2 (by rw [hv]; exact hk)
theorem GSM.c9 {pl' : Int32} (G : GSM σ S) (fi : S.1 0 35 = .int ii) (fp : S.2.1 9 ii.toNatClampNeg = pl) (e : S1 = dg_uf S 9 (upd (S.2.1 9) ii.toNatClampNeg pl')) (hm : pl'.toInt = pl.toInt + 1) (h0m : 0 ≤ pl.toInt) : GSM (σ.1, σ.2.1, σ.2.2.1 + 1, σ.2.2.2) S1 := by
  obtain ⟨h0, e0, o1, o2⟩ := G.at fi
  have c2 := dk_clN pl
  have c3 := dk_clN pl'
  have e8i : S1.2.1 9 ii.toNatClampNeg = pl' := by rw [dg_uf_at e, y_upd_at]
  have el : ∀ a, S1.2.2 a = S.2.2 a := dg_uf_l e
  refine ⟨ii, (dg_uf_F e 0 35).trans fi, h0, ?_, ?_, ?_⟩
  · rw [e0]
    unfold GSv
    rw [e8i, fp, show pl'.toNatClampNeg = pl.toNatClampNeg + 1 by omega, dg_uf_ne e (a := 2) (by decide), dg_uf_ne e (a := 3) (by decide), dg_uf_ne e (a := 8) (by decide), dg_uf_ne e (a := 12) (by decide), dg_uf_ne e (a := 16) (by decide), el 20, el 21]
  · rw [dg_uf_ne e (a := 8) (by decide), el 20]
    exact o1
  · rw [dg_uf_ne e (a := 12) (by decide), el 21]
    exact o2
theorem GSM.c2 {c : Int32} (G : GSM σ S) (fi : S.1 0 35 = .int ii) (e : S1 = dg_uf S 2 (upd (S.2.1 2) ii.toNatClampNeg c)) : GSM ((c.toInt, σ.1.2), σ.2) S1 := by
  obtain ⟨h0, e0, o1, o2⟩ := G.at fi
  have e8i : S1.2.1 2 ii.toNatClampNeg = c := by rw [dg_uf_at e, y_upd_at]
  have el : ∀ a, S1.2.2 a = S.2.2 a := dg_uf_l e
  refine ⟨ii, (dg_uf_F e 0 35).trans fi, h0, ?_, ?_, ?_⟩
  · rw [e0]
    unfold GSv
    rw [e8i, dg_uf_ne e (a := 3) (by decide), dg_uf_ne e (a := 8) (by decide), dg_uf_ne e (a := 9) (by decide), dg_uf_ne e (a := 12) (by decide), dg_uf_ne e (a := 16) (by decide), el 20, el 21]
  · rw [dg_uf_ne e (a := 8) (by decide), el 20]
    exact o1
  · rw [dg_uf_ne e (a := 12) (by decide), el 21]
    exact o2
theorem GSM.c3 {c : Int32} (G : GSM σ S) (fi : S.1 0 35 = .int ii) (e : S1 = dg_uf S 3 (upd (S.2.1 3) ii.toNatClampNeg c)) : GSM ((σ.1.1, c.toInt), σ.2) S1 := by
  obtain ⟨h0, e0, o1, o2⟩ := G.at fi
  have e8i : S1.2.1 3 ii.toNatClampNeg = c := by rw [dg_uf_at e, y_upd_at]
  have el : ∀ a, S1.2.2 a = S.2.2 a := dg_uf_l e
  refine ⟨ii, (dg_uf_F e 0 35).trans fi, h0, ?_, ?_, ?_⟩
  · rw [e0]
    unfold GSv
    rw [e8i, dg_uf_ne e (a := 2) (by decide), dg_uf_ne e (a := 8) (by decide), dg_uf_ne e (a := 9) (by decide), dg_uf_ne e (a := 12) (by decide), dg_uf_ne e (a := 16) (by decide), el 20, el 21]
  · rw [dg_uf_ne e (a := 8) (by decide), el 20]
    exact o1
  · rw [dg_uf_ne e (a := 12) (by decide), el 21]
    exact o2
/-- a rule is told -/
def GSr (r : Bool × Bool × Bool) (w : Int) : Bool × Bool × Bool := (if w = 0 then true else r.1, if w = 1 then true else r.2.1, if w = 2 then true else r.2.2)
theorem GSM.c16 {x w c : Int32} (G : GSM σ S) (fi : S.1 0 35 = .int ii) (e : S1 = dg_uf S 16 (upd (S.2.1 16) x.toNatClampNeg c)) (hx : x.toInt = 3 * ii.toInt + w.toInt) (hw : 0 ≤ w.toInt ∧ w.toInt ≤ 2) (hc : c.toInt ≠ -1) : GSM (σ.1, σ.2.1, σ.2.2.1, σ.2.2.2.1, GSr σ.2.2.2.2 w.toInt) S1 := by
  obtain ⟨h0, e0, o1, o2⟩ := G.at fi
  have c1 := dk_clN ii
  have c2 := dk_clN x
  have el : ∀ a, S1.2.2 a = S.2.2 a := dg_uf_l e
  have e16 : S1.2.1 16 = upd (S.2.1 16) x.toNatClampNeg c := dg_uf_at e
  have key : ∀ j : Nat, j ≤ 2 → decide ((S1.2.1 16 (3 * ii.toNatClampNeg + j)).toInt ≠ -1) = if w.toInt = (j : Int) then true else decide ((S.2.1 16 (3 * ii.toNatClampNeg + j)).toInt ≠ -1) := fun j hj => by
    by_cases q : w.toInt = (j : Int)
    · rw [if_pos q, e16, show 3 * ii.toNatClampNeg + j = x.toNatClampNeg by omega, y_upd_at, decide_eq_true hc]
    · rw [if_neg q, e16, y_upd_ne (by omega)]
  refine ⟨ii, (dg_uf_F e 0 35).trans fi, h0, ?_, ?_, ?_⟩
  · rw [e0]
    have k0 := key 0 (by decide)
    have k1 := key 1 (by decide)
    have k2 := key 2 (by decide)
    unfold GSv GSr
    rw [dg_uf_ne e (a := 2) (by decide), dg_uf_ne e (a := 3) (by decide), dg_uf_ne e (a := 8) (by decide), dg_uf_ne e (a := 9) (by decide), dg_uf_ne e (a := 12) (by decide), el 20, el 21]
    have k0' : decide ((S1.2.1 16 (3 * ii.toNatClampNeg)).toInt ≠ -1) = if w.toInt = 0 then true else decide ((S.2.1 16 (3 * ii.toNatClampNeg)).toInt ≠ -1) := k0
    have k1' : decide ((S1.2.1 16 (3 * ii.toNatClampNeg + 1)).toInt ≠ -1) = if w.toInt = 1 then true else decide ((S.2.1 16 (3 * ii.toNatClampNeg + 1)).toInt ≠ -1) := k1
    have k2' : decide ((S1.2.1 16 (3 * ii.toNatClampNeg + 2)).toInt ≠ -1) = if w.toInt = 2 then true else decide ((S.2.1 16 (3 * ii.toNatClampNeg + 2)).toInt ≠ -1) := k2
    rw [k0', k1', k2']
  · rw [dg_uf_ne e (a := 8) (by decide), el 20]
    exact o1
  · rw [dg_uf_ne e (a := 12) (by decide), el 21]
    exact o2
theorem GSM.rule {x w v : Int32} (G : GSM σ S) (fi : S.1 0 35 = .int ii) (fx : S.2.1 16 x.toNatClampNeg = v) (hx : x.toInt = 3 * ii.toInt + w.toInt) (hw : 0 ≤ w.toInt ∧ w.toInt ≤ 2) : (w.toInt = 0 → σ.2.2.2.2.1 = decide (v.toInt ≠ -1)) ∧ (w.toInt = 1 → σ.2.2.2.2.2.1 = decide (v.toInt ≠ -1)) ∧ (w.toInt = 2 → σ.2.2.2.2.2.2 = decide (v.toInt ≠ -1)) := by
  obtain ⟨h0, e0, o1, o2⟩ := G.at fi
  have c1 := dk_clN ii
  have c2 := dk_clN x
  rw [e0]
  unfold GSv
  refine ⟨fun q => ?_, fun q => ?_, fun q => ?_⟩
  · show decide ((S.2.1 16 (3 * ii.toNatClampNeg)).toInt ≠ -1) = _
    rw [show 3 * ii.toNatClampNeg = x.toNatClampNeg by omega, fx]
  · show decide ((S.2.1 16 (3 * ii.toNatClampNeg + 1)).toInt ≠ -1) = _
    rw [show 3 * ii.toNatClampNeg + 1 = x.toNatClampNeg by omega, fx]
  · show decide ((S.2.1 16 (3 * ii.toNatClampNeg + 2)).toInt ≠ -1) = _
    rw [show 3 * ii.toNatClampNeg + 2 = x.toNatClampNeg by omega, fx]
end GSS
end
section
/-! STATEMENTS' ends, rules told, and one STATEMENT after another, as the reference has them -/
def GSq (r : Bool × Bool × Bool) (w : Int) : Bool := if w = 0 then r.1 else if w = 1 then r.2.1 else r.2.2
def m_T12 (kd vl : Nat → Int32) (σ : y_S) (w : Int) (k : Nat) : Option (y_S × Nat) := if GSq σ.2.2.2.2 w = true then none else (y_rule kd vl w k).map fun k9 => ((σ.1, σ.2.1, σ.2.2.1, σ.2.2.2.1, GSr σ.2.2.2.2 w), k9)
section GF
variable {tb : Nat → Int32} {n k : Nat} {S S1 : dg_S} {kd vl : Nat → Int32} {sg sa se va fk f a1 : Int32} {σ σ' : y_S} {c : Int}
theorem T_kd_0 : (T_kd tb n k).toInt = 0 ↔ ¬ t_s tb n k < n := by
  constructor
  · intro q r
    unfold T_kd t_kd at q
    rw [if_pos r] at q
    unfold t_K at q
    split at q
    · split at q
      · exact absurd q (by decide +kernel)
      · split at q <;> exact absurd q (by decide +kernel)
    · split at q
      · split at q <;> exact absurd q (by decide +kernel)
      · exact absurd q (by decide +kernel)
  · intro q
    unfold T_kd t_kd
    rw [if_neg q]
    decide +kernel
theorem FIN.kz {at9 : Int32} (h : TKM tb n S) (f4 : S.1 0 4 = .int sa) (f5 : S.1 0 5 = .int se) (hs : t_sk tb n se.toNatClampNeg = at9.toNatClampNeg) (hz : (T_kd tb n (t_ix tb n sa.toNatClampNeg)).toInt ≠ 0) : (T_kd tb n (t_ix tb n sa.toNatClampNeg + 1)).toInt = 0 ↔ n ≤ at9.toNatClampNeg := by
  obtain ⟨-, k, a, sg', s4, s5, va', lx', wd', g3, g4, g5, g6, g7, g12, e1, e2, e3⟩ := h
  cases f4.symm.trans g4
  cases f5.symm.trans g5
  rw [t_ix_eq a e1.symm, T_kd_0, t_s_def, ← e2, hs]
  omega
theorem g_tk_5 (h : (kd k).toInt = 5) : g_tk kd vl c k = none := by
  unfold g_tk
  rw [g_s_5 h]
  rfl
theorem g_tk_y (h : g_s kd vl c k = true) : g_tk kd vl c k = some (k + 1) := by
  unfold g_tk
  rw [if_pos h]
theorem SOK.via {T T' : Option (y_S × Nat)} (e : T = T') (h : SOK tb n f T' S1) (hf : fk.toInt = 0 → f.toInt = 0) : SOK tb n fk T S1 := by
  intro h0
  rw [e]
  exact h (hf h0)
theorem SOK.none {y8 : Int32} {T : Option (y_S × Nat)} (p8 : S1.1 0 8 = .int y8) (h8 : y8.toInt ≠ 0) (e : fk.toInt = 0 → T = none) : SOK tb n fk T S1 := by
  intro h0 f a q8 q4
  cases p8.symm.trans q8
  exact ⟨fun q => absurd q h8, fun _ => Or.inl (e h0)⟩
theorem y_st_none (h2 : g_o kd vl 2 k = false) (h3 : g_o kd vl 3 k = false) (h4 : g_o kd vl 4 k = false) (h5 : g_o kd vl 5 k = false) (h6 : g_o kd vl 6 k = false) (h7 : g_o kd vl 7 k = false) (h9 : g_o kd vl 9 k = false) (h12 : g_o kd vl 12 k = false) (h13 : g_o kd vl 13 k = false) (h14 : g_o kd vl 14 k = false) : y_st kd vl σ k = none := by
  unfold y_st
  simp only [h2, h3, h4, h5, h6, h7, h9, h12, h13, h14]
  rfl
theorem y_st_12' (hk : (kd k).toInt = 1) (hv : (vl k).toInt = 12) (ha : a1.toInt = 0) : y_st kd vl σ k = m_T12 kd vl σ a1.toInt (k + 1) := by
  rw [ha]
  exact y_st_12 hk hv
theorem y_st_13' (hk : (kd k).toInt = 1) (hv : (vl k).toInt = 13) (ha : a1.toInt = 1) : y_st kd vl σ k = m_T12 kd vl σ a1.toInt (k + 1) := by
  rw [ha]
  exact y_st_13 hk hv
theorem y_st_14' (hk : (kd k).toInt = 1) (hv : (vl k).toInt = 14) (ha : a1.toInt = 2) : y_st kd vl σ k = m_T12 kd vl σ a1.toInt (k + 1) := by
  rw [ha]
  exact y_st_14 hk hv
theorem GSM.told {x w v ii : Int32} (G : GSM σ S) (fi : S.1 0 35 = .int ii) (fx : S.2.1 16 x.toNatClampNeg = v) (hx : x.toInt = 3 * ii.toInt + w.toInt) (hw : 0 ≤ w.toInt ∧ w.toInt ≤ 2) : GSq σ.2.2.2.2 w.toInt = true ↔ v.toInt ≠ -1 := by
  obtain ⟨a, b, c⟩ := G.rule fi fx hx hw
  unfold GSq
  by_cases q0 : w.toInt = 0
  · rw [if_pos q0, a q0, decide_eq_true_eq]
  · rw [if_neg q0]
    by_cases q1 : w.toInt = 1
    · rw [if_pos q1, b q1, decide_eq_true_eq]
    · rw [if_neg q1, c (by omega), decide_eq_true_eq]
/-- what a rule's reading comes to -/
def ROK (tb : Nat → Int32) (n : Nat) (fk : Int32) (E : Option Nat) (S' : dg_S) : Prop := fk.toInt = 0 → ∀ f a : Int32, S'.1 0 8 = .int f → S'.1 0 4 = .int a → (f.toInt = 0 → E = some (t_ix tb n a.toNatClampNeg)) ∧ (f.toInt ≠ 0 → E = none ∨ ∃ k' : Nat, E = some k' ∧ (T_kd tb n k').toInt = 5)
theorem ROK.sok {y8 y4 : Int32} {T : Option (y_S × Nat)} {P : Prop} [Decidable P] {E : Option Nat} {S2 : dg_S} (h : ROK tb n f E S2) (hf : f.toInt = 0) (p8' : S2.1 0 8 = .int y8) (p4' : S2.1 0 4 = .int y4) (p8 : S1.1 0 8 = .int y8) (p4 : S1.1 0 4 = .int y4) (hp : ¬ P) (hG : y8.toInt = 0 → GSM σ' S1) (hT : T = if P then none else E.map fun k' => (σ', k')) : SOK tb n fk T S1 := by
  intro h0 f9 a9 q8 q4
  cases p8.symm.trans q8
  cases p4.symm.trans q4
  obtain ⟨x, y⟩ := h hf _ _ p8' p4'
  rw [hT, if_neg hp]
  refine ⟨fun q => ⟨σ', hG q, by rw [x q]; rfl⟩, fun q => ?_⟩
  rcases y q with e | ⟨k', e, e5⟩
  · exact Or.inl (by rw [e]; rfl)
  · exact Or.inr ⟨σ', k', by rw [e]; rfl, e5⟩
end GF
end
section
/-! the frames as they lie in the reference's rows: kinds, phases, beginnings, bases, operators that wait -/
def c_n (ops : Nat → Int32) (lo hi : Nat) : Nat := dk_cnt ops 43 hi - dk_cnt ops 43 lo
def c_L (fr ph bg bs ops : Nat → Int32) : Nat → Nat → List m_F
  | 0, _ => []
  | d + 1, hi => ((fr d).toInt, (ph d).toInt, decide ((bg d).toInt = 1), c_n ops (bs d).toInt.toNat hi) :: c_L fr ph bg bs ops d (bs d).toInt.toNat
/-- bases rise -/
def c_ok (bs : Nat → Int32) : Nat → Nat → Prop
  | 0, _ => True
  | d + 1, hi => (bs d).toInt.toNat ≤ hi ∧ c_ok bs d (bs d).toInt.toNat
section CL
variable {fr ph bg bs ops fr' ph' bg' bs' ops' : Nat → Int32}
theorem c_n_congr {lo hi : Nat} (hl : lo ≤ hi) (h : ∀ j, j < hi → ops' j = ops j) : c_n ops' lo hi = c_n ops lo hi := by
  unfold c_n
  rw [dk_cnt_congr (f := ops) (g := ops') (n := hi) h, dk_cnt_congr (f := ops) (g := ops') (n := lo) (fun j hj => h j (by omega))]
theorem c_n_nil {lo : Nat} : c_n ops lo lo = 0 := Nat.sub_self _
theorem c_n_push {lo hi : Nat} {t : Int32} (hl : lo ≤ hi) : c_n (upd ops hi t) lo (hi + 1) = c_n ops lo hi + (if t.toInt = 43 then 1 else 0) := by
  have e0 : upd ops hi t hi = t := by unfold upd; rw [if_pos rfl]
  have e1 := dk_cnt_out (f := ops) (k := 43) (j := hi) (x := t) (Nat.le_refl hi)
  have e2 := dk_cnt_out (f := ops) (k := 43) (j := hi) (x := t) hl
  have m := dk_cnt_mono (f := ops) (k := 43) hl
  unfold c_n
  show dk_cnt (upd ops hi t) 43 hi + (if (upd ops hi t hi).toInt = 43 then 1 else 0) - dk_cnt (upd ops hi t) 43 lo = _
  rw [e0, e1, e2]
  omega
theorem c_n_pop {lo hi hi' : Nat} (h1 : lo ≤ hi') (h2 : hi' ≤ hi) (h : ∀ j, hi' ≤ j → j < hi → (ops j).toInt ≠ 43) : c_n ops lo hi' = c_n ops lo hi := by
  have e : ∀ n, hi' ≤ n → n ≤ hi → dk_cnt ops 43 n = dk_cnt ops 43 hi' := by
    intro n
    induction n with
    | zero => intro a b; rw [show hi' = 0 by omega]
    | succ n ih =>
      intro a b
      by_cases q : hi' = n + 1
      · rw [q]
      · have k := dk_cnt_s ops 43 n
        have n1 := h n (by omega) (by omega)
        have i := ih (by omega) (by omega)
        omega
  unfold c_n
  rw [e hi h2 (Nat.le_refl hi)]
theorem c_n_none {lo hi : Nat} (h1 : lo ≤ hi) (h : ∀ j, lo ≤ j → j < hi → (ops j).toInt ≠ 43) : c_n ops lo hi = 0 := by
  rw [← c_n_pop (Nat.le_refl lo) h1 h]
  exact c_n_nil
theorem c_L_congr : ∀ (d hi : Nat), c_ok bs d hi → (∀ j, j < d → fr' j = fr j ∧ ph' j = ph j ∧ bg' j = bg j ∧ bs' j = bs j) → (∀ j, j < hi → ops' j = ops j) → c_L fr' ph' bg' bs' ops' d hi = c_L fr ph bg bs ops d hi
  | 0, hi, _, _, _ => rfl
  | d + 1, hi, hk, h, ho => by
    obtain ⟨a, b, c, e⟩ := h d (Nat.lt_succ_self d)
    show ((fr' d).toInt, (ph' d).toInt, decide ((bg' d).toInt = 1), c_n ops' (bs' d).toInt.toNat hi) :: c_L fr' ph' bg' bs' ops' d (bs' d).toInt.toNat = ((fr d).toInt, (ph d).toInt, decide ((bg d).toInt = 1), c_n ops (bs d).toInt.toNat hi) :: c_L fr ph bg bs ops d (bs d).toInt.toNat
    rw [a, b, c, e, c_n_congr hk.1 ho, c_L_congr d (bs d).toInt.toNat hk.2 (fun j hj => h j (Nat.lt_succ_of_lt hj)) (fun j hj => ho j (Nat.lt_of_lt_of_le hj hk.1))]
/-- the top frame told anew, the others as they were -/
theorem c_L_top {d hi : Nat} (hk : c_ok bs d (bs d).toInt.toNat) (h : ∀ j, j < d → fr' j = fr j ∧ ph' j = ph j ∧ bg' j = bg j ∧ bs' j = bs j) (hb : bs' d = bs d) (ho : ∀ j, j < (bs d).toInt.toNat → ops' j = ops j) : c_L fr' ph' bg' bs' ops' (d + 1) hi = ((fr' d).toInt, (ph' d).toInt, decide ((bg' d).toInt = 1), c_n ops' (bs d).toInt.toNat hi) :: c_L fr ph bg bs ops d (bs d).toInt.toNat := by
  show (_, _, _, c_n ops' (bs' d).toInt.toNat hi) :: c_L fr' ph' bg' bs' ops' d (bs' d).toInt.toNat = _
  rw [hb, c_L_congr d (bs d).toInt.toNat hk h ho]
/-- a frame more -/
theorem c_L_push {d hi : Nat} (hk : c_ok bs d hi) (h : ∀ j, j < d → fr' j = fr j ∧ ph' j = ph j ∧ bg' j = bg j ∧ bs' j = bs j) (hb : (bs' d).toInt.toNat = hi) (ho : ∀ j, j < hi → ops' j = ops j) : c_L fr' ph' bg' bs' ops' (d + 1) hi = ((fr' d).toInt, (ph' d).toInt, decide ((bg' d).toInt = 1), 0) :: c_L fr ph bg bs ops d hi := by
  show (_, _, _, c_n ops' (bs' d).toInt.toNat hi) :: c_L fr' ph' bg' bs' ops' d (bs' d).toInt.toNat = _
  rw [hb, c_L_congr d hi hk h ho, c_n_nil]
theorem c_ok_of {pr : Nat → Int32} {d n : Nat} {on : Int} (h : dk_fs fr ph bg pr bs ops d n on) : c_ok bs d n := by
  have key : ∀ k hi : Nat, k ≤ d → (k = 0 ∨ hi = dk_hi bs d n (k - 1)) → c_ok bs k hi := by
    intro k
    induction k with
    | zero => intro hi _ _; exact trivial
    | succ k ih =>
      intro hi hk hh
      have hh2 : hi = dk_hi bs d n k := by
        rcases hh with hh | hh
        · cases hh
        · exact hh
      have a := (h.2 k (by omega)).1.2
      refine ⟨by rw [hh2]; exact a, ih _ (by omega) ?_⟩
      by_cases z : k = 0
      · exact Or.inl z
      · refine Or.inr ?_
        unfold dk_hi
        rw [if_pos (by omega), show k - 1 + 1 = k by omega]
  have h1 := h.1.1
  exact key d n (Nat.le_refl d) (Or.inr (dk_hi_top h1).symm)
end CL
end
