section
/-! the reference's frames with the operators that wait and their pairs; the codes that are written -/
abbrev x_F : Type := List (List Int × Int)
/-- n of them from lo on, the last one first -/
def x_seg (ops : Nat → Int32) (lo : Nat) : Nat → List Int
  | 0 => []
  | n + 1 => (ops (lo + n)).toInt :: x_seg ops lo n
def x_L (pr bs ops : Nat → Int32) : Nat → Nat → x_F
  | 0, _ => []
  | d + 1, hi => (x_seg ops (bs d).toInt.toNat (hi - (bs d).toInt.toNat), (pr d).toInt) :: x_L pr bs ops d (bs d).toInt.toNat
def XSL (S : dg_S) : x_F := x_L (S.2.1 25) (S.2.1 26) (S.2.1 27) (fI S 42).toNatClampNeg (fI S 45).toNatClampNeg
/-- the pair, where it counts -/
def n_np (kn p : Int) : Int := if kn = 3 ∨ kn = 4 ∨ kn = 6 then p else 0
def n_Z : List m_F → x_F → List n_F
  | (kn, ph, bg, _) :: R, (l, p) :: X => (kn, ph, bg, l, n_np kn p) :: n_Z R X
  | _, _ => []
def NSv (S : dg_S) (k : Nat) (q : Bool) (out : List Int) : n_S := (0, n_Z (MSL S) (XSL S), (fI S 43).toNatClampNeg, k, q, out)
/-- the class's step of a code: its sort, its value -/
def d_2 (t v : Int) : Int := if t = 0 then v else d_st t
def q_am (S S1 : dg_S) (L : List Int) : Prop := ∃ ii a b : Int32, S.1 0 35 = .int ii ∧ S1.1 0 35 = .int ii ∧ S.1 0 34 = .int a ∧ S1.1 0 34 = .int b ∧ 0 ≤ ii.toInt ∧ 0 ≤ a.toInt ∧ b.toInt = a.toInt + L.length ∧ (∀ j : Nat, (j : Int) < 1600 * ii.toInt + a.toInt → S1.2.1 18 j = S.2.1 18 j ∧ S1.2.1 19 j = S.2.1 19 j) ∧ ∀ j : Nat, j < L.length → d_2 (S1.2.1 18 ((1600 * ii.toInt + a.toInt).toNat + j)).toInt (S1.2.1 19 ((1600 * ii.toInt + a.toInt).toNat + j)).toInt = L.getD j 0
section XSEG
variable {ops ops' pr pr' bs bs' : Nat → Int32} {lo n m : Nat}
theorem x_seg_congr : ∀ {n : Nat}, (∀ j, j < n → ops' (lo + j) = ops (lo + j)) → x_seg ops' lo n = x_seg ops lo n
  | 0, _ => rfl
  | n + 1, h => by
    show (ops' (lo + n)).toInt :: x_seg ops' lo n = (ops (lo + n)).toInt :: x_seg ops lo n
    rw [h n (Nat.lt_succ_self n), x_seg_congr (fun j hj => h j (Nat.lt_succ_of_lt hj))]
/-- the upper ones, then the lower ones -/
theorem x_seg_add : ∀ (n : Nat), x_seg ops lo (m + n) = x_seg ops (lo + m) n ++ x_seg ops lo m
  | 0 => rfl
  | n + 1 => by
    show (ops (lo + (m + n))).toInt :: x_seg ops lo (m + n) = (ops (lo + m + n)).toInt :: (x_seg ops (lo + m) n ++ x_seg ops lo m)
    rw [x_seg_add n, show lo + (m + n) = lo + m + n by omega]
theorem x_seg_mem : ∀ {n : Nat} {t : Int}, t ∈ x_seg ops lo n → ∃ j, j < n ∧ t = (ops (lo + j)).toInt
  | 0, t, h => by cases h
  | n + 1, t, h => by
    rcases List.mem_cons.mp h with h | h
    · exact ⟨n, Nat.lt_succ_self n, h⟩
    · obtain ⟨j, hj, e⟩ := x_seg_mem h
      exact ⟨j, by omega, e⟩
theorem x_L_congr : ∀ (d hi : Nat), c_ok bs d hi → (∀ j, j < d → pr' j = pr j ∧ bs' j = bs j) → (∀ j, j < hi → ops' j = ops j) → x_L pr' bs' ops' d hi = x_L pr bs ops d hi
  | 0, hi, _, _, _ => rfl
  | d + 1, hi, hk, h, ho => by
    obtain ⟨a, b⟩ := h d (Nat.lt_succ_self d)
    have h1 := hk.1
    show (x_seg ops' (bs' d).toInt.toNat (hi - (bs' d).toInt.toNat), (pr' d).toInt) :: x_L pr' bs' ops' d (bs' d).toInt.toNat = (x_seg ops (bs d).toInt.toNat (hi - (bs d).toInt.toNat), (pr d).toInt) :: x_L pr bs ops d (bs d).toInt.toNat
    rw [a, b, x_seg_congr (fun j hj => ho _ (by omega)), x_L_congr d (bs d).toInt.toNat hk.2 (fun j hj => h j (Nat.lt_succ_of_lt hj)) (fun j hj => ho j (Nat.lt_of_lt_of_le hj h1))]
end XSEG
/-- the top frame's operators and pair, those below -/
def XFM (l : List Int) (p : Int) (X : x_F) (S : dg_S) : Prop := XSL S = (l, p) :: X
section XF
variable {S S1 S2 : dg_S} {WF : List (Nat × Nat)} {WA : List Nat} {dp on om dp' om' fx v t lv : Int32} {kn ph p : Int} {bg : Bool} {nt o d : Nat} {R : List m_F} {l : List Int} {X : x_F}
theorem XFM.keep (h : XFM l p X S) (m : dg_sm shM WF WA S S1) (h1 : (0, 42) ∉ WF) (h3 : (0, 45) ∉ WF) (k5 : 25 ∉ WA) (k6 : 26 ∉ WA) (k7 : 27 ∉ WA) : XFM l p X S1 := by
  unfold XFM XSL at h ⊢
  rw [fI_sm m h1, fI_sm m h3, (m.2 25 _ sM_25 k5).1, (m.2 26 _ sM_26 k6).1, (m.2 27 _ sM_27 k7).1]
  exact h
theorem XSL_s (f1 : S.1 0 42 = .int dp) (f3 : S.1 0 45 = .int om) (hd : dp.toNatClampNeg = d + 1) : XSL S = (x_seg (S.2.1 27) (S.2.1 26 d).toInt.toNat (om.toNatClampNeg - (S.2.1 26 d).toInt.toNat), (S.2.1 25 d).toInt) :: x_L (S.2.1 25) (S.2.1 26) (S.2.1 27) d (S.2.1 26 d).toInt.toNat := by
  unfold XSL
  rw [fI_at f1, fI_at f3, hd]
  rfl
theorem XFM.inv (h : XFM l p X S) (f1 : S.1 0 42 = .int dp) (f3 : S.1 0 45 = .int om) (hd : dp.toNatClampNeg = d + 1) : l = x_seg (S.2.1 27) (S.2.1 26 d).toInt.toNat (om.toNatClampNeg - (S.2.1 26 d).toInt.toNat) ∧ p = (S.2.1 25 d).toInt ∧ X = x_L (S.2.1 25) (S.2.1 26) (S.2.1 27) d (S.2.1 26 d).toInt.toNat := by
  unfold XFM at h
  rw [XSL_s f1 f3 hd] at h
  injection h with h1 h2
  injection h1 with h3 h4
  exact ⟨h3.symm, h4.symm, h2.symm⟩
theorem XFM.mk (f1 : S.1 0 42 = .int dp) (f3 : S.1 0 45 = .int om) (hd : dp.toNatClampNeg = d + 1) (e1 : x_seg (S.2.1 27) (S.2.1 26 d).toInt.toNat (om.toNatClampNeg - (S.2.1 26 d).toInt.toNat) = l) (e2 : (S.2.1 25 d).toInt = p) (e3 : x_L (S.2.1 25) (S.2.1 26) (S.2.1 27) d (S.2.1 26 d).toInt.toNat = X) : XFM l p X S := by
  unfold XFM
  rw [XSL_s f1 f3 hd, e1, e2, e3]
theorem XFM.start (T : TFM kn ph bg nt R o S) (f1 : S.1 0 42 = .int dp) (f2 : S.1 0 43 = .int on) (f3 : S.1 0 45 = .int om) : ∃ (l : List Int) (p : Int) (X : x_F), XFM l p X S := by
  obtain ⟨d, hd, -⟩ := T.inv f1 f2 f3
  exact ⟨_, _, _, XFM.mk f1 f3 hd rfl rfl rfl⟩
theorem XFM.hb (h : XFM l p X S) (T : TFM kn ph bg nt R o S) (f1 : S.1 0 42 = .int dp) (f2 : S.1 0 43 = .int on) (f3 : S.1 0 45 = .int om) (h0 : 0 ≤ om.toInt) (m : dg_sm shM [(0, 45)] [27] S S1) (hb : HBM S S1 t) : XFM (t.toInt :: l) p X S1 := by
  obtain ⟨g27, om', g3, hom⟩ := hb om f3
  obtain ⟨d, hd, a1, a2, a3, a4, a5, a6, a7, a8⟩ := T.inv f1 f2 f3
  obtain ⟨e1, e2, e3⟩ := h.inv f1 f3 hd
  have eo : om'.toNatClampNeg = om.toNatClampNeg + 1 := by have e1 := dk_clN om; have e2 := dk_clN om'; omega
  have g26 := (m.2 26 _ sM_26 (by decide)).1
  have g25 := (m.2 25 _ sM_25 (by decide)).1
  refine XFM.mk (by rw [m.1 0 42 _ sM_0 (by decide)]; exact f1) g3 hd ?_ (by rw [g25]; exact e2.symm) ?_
  · rw [g26, g27, eo, show om.toNatClampNeg + 1 - (S.2.1 26 d).toInt.toNat = (om.toNatClampNeg - (S.2.1 26 d).toInt.toNat) + 1 by omega]
    show (upd (S.2.1 27) om.toNatClampNeg t _).toInt :: x_seg _ _ _ = _
    rw [show (S.2.1 26 d).toInt.toNat + (om.toNatClampNeg - (S.2.1 26 d).toInt.toNat) = om.toNatClampNeg by omega, dk_upd_s, x_seg_congr (ops := S.2.1 27) (fun j hj => dk_upd_o (by omega)), ← e1]
  · rw [g25, g26, g27, e3]
    exact x_L_congr d _ a8 (fun j hj => ⟨rfl, rfl⟩) (fun j hj => dk_upd_o (by omega))
/-- a frame more -/
theorem XFM.push (h : XFM l p X S) (T : TFM kn ph bg nt R o S) (f1 : S.1 0 42 = .int dp) (f2 : S.1 0 43 = .int on) (f3 : S.1 0 45 = .int om) (hd0 : 0 ≤ dp.toInt) (m : dg_sm shM WF WA S S1) (h45 : (0, 45) ∉ WF) (k5 : 25 ∉ WA) (k7 : 27 ∉ WA) (hp : PUM S S1 t) : ∃ q : Int, XFM [] q ((l, p) :: X) S1 := by
  obtain ⟨g22, g23, g24, g26, dp', g1, hdp⟩ := hp dp om f1 f3
  have hc := T.2.2
  rw [fI_at f1, fI_at f3] at hc
  have hx := h
  unfold XFM XSL at hx
  rw [fI_at f1, fI_at f3] at hx
  have e1 := dk_clN dp
  have e2 := dk_clN dp'
  have g27 := (m.2 27 _ sM_27 k7).1
  have g25 := (m.2 25 _ sM_25 k5).1
  have eb : (S1.2.1 26 dp.toNatClampNeg).toInt.toNat = om.toNatClampNeg := by rw [g26, dk_upd_s]; rfl
  refine ⟨_, XFM.mk (d := dp.toNatClampNeg) g1 (by rw [m.1 0 45 _ sM_0 h45]; exact f3) (by omega) ?_ rfl ?_⟩
  · rw [eb, Nat.sub_self]
    rfl
  · rw [eb, ← hx]
    exact x_L_congr _ _ hc (fun j hj => ⟨by rw [g25], by rw [g26, dk_upd_o (by omega)]⟩) (fun j _ => by rw [g27])
/-- the first frame of a rule -/
theorem XFM.first (f1 : S.1 0 42 = .int dp) (f3 : S.1 0 45 = .int om) (hd : dp.toInt = 0) (m : dg_sm shM WF WA S S1) (h45 : (0, 45) ∉ WF) (hp : PUM S S1 t) : ∃ q : Int, XFM [] q [] S1 := by
  obtain ⟨g22, g23, g24, g26, dp', g1, hdp⟩ := hp dp om f1 f3
  have e1 := dk_clN dp
  have e2 := dk_clN dp'
  have ed : dp.toNatClampNeg = 0 := by omega
  rw [ed] at g26
  have eb : (S1.2.1 26 0).toInt.toNat = om.toNatClampNeg := by rw [g26, dk_upd_s]; rfl
  refine ⟨_, XFM.mk (d := 0) g1 (by rw [m.1 0 45 _ sM_0 h45]; exact f3) (by omega) ?_ rfl rfl⟩
  rw [eb, Nat.sub_self]
  rfl
/-- its pair -/
theorem XFM.pr (h : XFM l p X S) (T : TFM kn ph bg nt R o S) (f1 : S.1 0 42 = .int dp) (f2 : S.1 0 43 = .int on) (f3 : S.1 0 45 = .int om) (hf : fx.toInt = dp.toInt - 1) (e : S1 = dg_uf S 25 (upd (S.2.1 25) fx.toNatClampNeg v)) : XFM l v.toInt X S1 := by
  obtain ⟨d, hd, a1, a2, a3, a4, a5, a6, a7, a8⟩ := T.inv f1 f2 f3
  obtain ⟨e1, e2, e3⟩ := h.inv f1 f3 hd
  have c1 := dk_clN dp
  have c2 := dk_clN fx
  have ef : fx.toNatClampNeg = d := by omega
  rw [ef] at e
  refine XFM.mk (by rw [dg_uf_F e]; exact f1) (by rw [dg_uf_F e]; exact f3) hd (by rw [dg_uf_ne (a := 26) e (by decide), dg_uf_ne (a := 27) e (by decide)]; exact e1.symm) (by rw [dg_uf_at e, dk_upd_s]) ?_
  rw [dg_uf_ne (a := 26) e (by decide), dg_uf_ne (a := 27) e (by decide), e3]
  exact x_L_congr d _ a8 (fun j hj => ⟨by rw [dg_uf_at e, dk_upd_o (by omega)], rfl⟩) (fun _ _ => rfl)
/-- what joins() pops is written -/
def JXM (S S1 : dg_S) : Prop := ∀ om : Int32, S.1 0 45 = .int om → ∃ om' : Int32, S1.1 0 45 = .int om' ∧ om'.toNatClampNeg ≤ om.toNatClampNeg ∧ q_am S S1 ((x_seg (S.2.1 27) om'.toNatClampNeg (om.toNatClampNeg - om'.toNatClampNeg)).map d_st)
theorem XFM.join (h : XFM l p X S) (T : TFM kn ph bg nt R o S) (f1 : S.1 0 42 = .int dp) (f2 : S.1 0 43 = .int on) (f3 : S.1 0 45 = .int om) (J : JNM S S1 lv) (Q : JXM S S1) (top : TOPM S1 lv) (m : dg_sm shM WF WA S S1) (h42 : (0, 42) ∉ WF) (k5 : 25 ∉ WA) (k6 : 26 ∉ WA) (k7 : 27 ∉ WA) : XFM (n_lo lv.toInt l) p X S1 ∧ q_am S S1 ((n_hi lv.toInt l).map d_st) := by
  obtain ⟨d, hd, a1, a2, a3, a4, a5, a6, a7, a8⟩ := T.inv f1 f2 f3
  obtain ⟨e1, e2, e3⟩ := h.inv f1 f3 hd
  obtain ⟨on', om', c1, c2, c3, c4, c5, c6⟩ := J dp on om f1 f2 f3
  obtain ⟨om2, q1, q2, q3⟩ := Q om f3
  cases c2.symm.trans q1
  have g42 : S1.1 0 42 = .int dp := by rw [m.1 0 42 _ sM_0 h42]; exact f1
  have g25 := (m.2 25 _ sM_25 k5).1
  have g26 := (m.2 26 _ sM_26 k6).1
  have g27 := (m.2 27 _ sM_27 k7).1
  have top := top dp om' g42 c2
  rw [hd, Nat.add_sub_cancel] at c3 top
  rw [g26, g27] at top
  have hs : l = x_seg (S.2.1 27) om'.toNatClampNeg (om.toNatClampNeg - om'.toNatClampNeg) ++ x_seg (S.2.1 27) (S.2.1 26 d).toInt.toNat (om'.toNatClampNeg - (S.2.1 26 d).toInt.toNat) := by
    have := x_seg_add (ops := S.2.1 27) (lo := (S.2.1 26 d).toInt.toNat) (m := om'.toNatClampNeg - (S.2.1 26 d).toInt.toNat) (om.toNatClampNeg - om'.toNatClampNeg)
    rw [show (S.2.1 26 d).toInt.toNat + (om'.toNatClampNeg - (S.2.1 26 d).toInt.toNat) = om'.toNatClampNeg by omega, show om'.toNatClampNeg - (S.2.1 26 d).toInt.toNat + (om.toNatClampNeg - om'.toNatClampNeg) = om.toNatClampNeg - (S.2.1 26 d).toInt.toNat by omega] at this
    rw [e1, this]
  have hal : n_AL lv.toInt (x_seg (S.2.1 27) om'.toNatClampNeg (om.toNatClampNeg - om'.toNatClampNeg)) := by
    intro t ht
    obtain ⟨j, hj, e⟩ := x_seg_mem ht
    rw [e]
    exact c6 _ (by omega) (by omega)
  have hhd : n_HD lv.toInt (x_seg (S.2.1 27) (S.2.1 26 d).toInt.toNat (om'.toNatClampNeg - (S.2.1 26 d).toInt.toNat)) := by
    intro t r e
    cases hn : om'.toNatClampNeg - (S.2.1 26 d).toInt.toNat with
    | zero =>
      rw [hn] at e
      cases e
    | succ n =>
      rw [hn] at e
      injection e with e _
      rcases top with z | z
      · omega
      · rw [← e, show (S.2.1 26 d).toInt.toNat + n = om'.toNatClampNeg - 1 by omega]
        exact z
  obtain ⟨s1, s2⟩ := n_split hal hhd
  rw [← hs] at s1 s2
  rw [s1, s2]
  exact ⟨XFM.mk g42 c2 hd (by rw [g26, g27]) (by rw [g25]; exact e2.symm) (by rw [g25, g26, g27]; exact e3.symm), q3⟩
theorem XFM.pop (h : XFM l p X S) (T : TFM kn ph bg nt R o S) (f1 : S.1 0 42 = .int dp) (f2 : S.1 0 43 = .int on) (f3 : S.1 0 45 = .int om) (hl : l = []) (e : S1 = dg_uF S 0 42 (.int dp')) (hdp : dp'.toInt = dp.toInt - 1) (hR : R ≠ []) : ∃ (l' : List Int) (p' : Int) (X' : x_F), X = (l', p') :: X' ∧ XFM l' p' X' S1 := by
  obtain ⟨d, hd, a1, a2, a3, a4, a5, a6, a7, a8⟩ := T.inv f1 f2 f3
  obtain ⟨e1, e2, e3⟩ := h.inv f1 f3 hd
  have c1 := dk_clN dp
  have c2 := dk_clN dp'
  cases d with
  | zero => exact absurd a5 hR
  | succ d1 =>
    have eb : om.toNatClampNeg = (S.2.1 26 (d1 + 1)).toInt.toNat := by
      cases hn : om.toNatClampNeg - (S.2.1 26 (d1 + 1)).toInt.toNat with
      | zero => omega
      | succ n =>
        rw [hn, hl] at e1
        cases e1
    have hd1 : dp'.toNatClampNeg = d1 + 1 := by omega
    have g1 : S1.1 0 42 = .int dp' := dg_uF_at e
    have g3 : S1.1 0 45 = .int om := by rw [dg_uF_ne e (fun z => absurd z.2 (by decide))]; exact f3
    exact ⟨_, _, _, e3, XFM.mk g1 g3 hd1 (by rw [dg_uF_f e, dg_uF_f e, eb]) (by rw [dg_uF_f e]) (by rw [dg_uF_f e, dg_uF_f e, dg_uF_f e])⟩
end XF
section QAM
variable {S S1 S2 S3 : dg_S} {L L1 L2 L' : List Int} {WF : List (Nat × Nat)} {WA : List Nat} {ii a b t v : Int32}
theorem q_am.z (f5 : S.1 0 35 = .int ii) (f4 : S.1 0 34 = .int a) (h5 : 0 ≤ ii.toInt) (h4 : 0 ≤ a.toInt) : q_am S S [] := ⟨ii, a, a, f5, f5, f4, f4, h5, h4, by show a.toInt = a.toInt + ((0 : Nat) : Int); omega, fun j hj => ⟨rfl, rfl⟩, fun j hj => absurd hj (Nat.not_lt_zero j)⟩
/-- what add() writes -/
def A5M (S S1 : dg_S) (t v : Int32) : Prop := ∀ ii a : Int32, S.1 0 35 = .int ii → S.1 0 34 = .int a → ∃ b : Int32, S1.1 0 34 = .int b ∧ b.toInt = a.toInt + 1 ∧ S1.1 0 35 = .int ii ∧ S1.2.1 18 = upd (S.2.1 18) (1600 * ii.toInt + a.toInt).toNat t ∧ S1.2.1 19 = upd (S.2.1 19) (1600 * ii.toInt + a.toInt).toNat v
theorem A5M.mk {x y b : Int32} (f5 : S.1 0 35 = .int ii) (f4 : S.1 0 34 = .int a) (hx : x.toInt = 1600 * ii.toInt + a.toInt) (hy : y.toInt = 1600 * ii.toInt + a.toInt) (e1 : S1 = dg_uf S 18 (upd (S.2.1 18) x.toNatClampNeg t)) (e2 : S2 = dg_uf S1 19 (upd (S1.2.1 19) y.toNatClampNeg v)) (e3 : S3 = dg_uF S2 0 34 (.int b)) (hb : b.toInt = a.toInt + 1) : A5M S S3 t v := by
  intro ii' a' q5 q4
  cases f5.symm.trans q5
  cases f4.symm.trans q4
  have c1 := dk_clN x
  have c2 := dk_clN y
  have ex : x.toNatClampNeg = (1600 * ii.toInt + a.toInt).toNat := by omega
  have ey : y.toNatClampNeg = (1600 * ii.toInt + a.toInt).toNat := by omega
  refine ⟨b, dg_uF_at e3, hb, ?_, ?_, ?_⟩
  · rw [dg_uF_ne e3 (fun z => absurd z.2 (by decide)), dg_uf_F e2, dg_uf_F e1]
    exact f5
  · rw [dg_uF_f e3, dg_uf_ne e2 (by decide), dg_uf_at e1, ex]
  · rw [dg_uF_f e3, dg_uf_at e2, dg_uf_ne e1 (by decide), ey]
theorem q_am.tr (h1 : q_am S S1 L1) (h2 : q_am S1 S2 L2) : q_am S S2 (L1 ++ L2) := by
  obtain ⟨ii, a, b, f5, f5', f4, f4', h5, h4, n1, k1, w1⟩ := h1
  obtain ⟨jj, b', c, g5, g5', g4, g4', -, -, n2, k2, w2⟩ := h2
  cases f5'.symm.trans g5
  cases f4'.symm.trans g4
  refine ⟨ii, a, c, f5, g5', f4, g4', h5, h4, by rw [List.length_append]; omega, fun j hj => ?_, fun j hj => ?_⟩
  · obtain ⟨x, y⟩ := k2 j (by omega)
    obtain ⟨x', y'⟩ := k1 j hj
    exact ⟨x.trans x', y.trans y'⟩
  · by_cases q : j < L1.length
    · obtain ⟨x, y⟩ := k2 ((1600 * ii.toInt + a.toInt).toNat + j) (by omega)
      rw [x, y, w1 j q, List.getD_eq_getElem?_getD, List.getD_eq_getElem?_getD, List.getElem?_append_left q]
    · rw [List.length_append] at hj
      have h := w2 (j - L1.length) (by omega)
      rw [show (1600 * ii.toInt + b.toInt).toNat + (j - L1.length) = (1600 * ii.toInt + a.toInt).toNat + j by omega] at h
      rw [h, List.getD_eq_getElem?_getD, List.getD_eq_getElem?_getD, List.getElem?_append_right (by omega)]
theorem q_am.keep (h : q_am S S1 L) (m : dg_sm shM WF WA S1 S2) (h4 : (0, 34) ∉ WF) (h5 : (0, 35) ∉ WF) (k8 : 18 ∉ WA) (k9 : 19 ∉ WA) : q_am S S2 L := by
  obtain ⟨ii, a, b, f5, f5', f4, f4', p5, p4, n1, k1, w1⟩ := h
  have g8 := (m.2 18 _ sM_18 k8).1
  have g9 := (m.2 19 _ sM_19 k9).1
  exact ⟨ii, a, b, f5, (m.1 0 35 _ sM_0 h5).trans f5', f4, (m.1 0 34 _ sM_0 h4).trans f4', p5, p4, n1, fun j hj => by rw [g8, g9]; exact k1 j hj, fun j hj => by rw [g8, g9]; exact w1 j hj⟩
theorem q_am.fst (m : dg_sm shM WF WA S S1) (h4 : (0, 34) ∉ WF) (h5 : (0, 35) ∉ WF) (k8 : 18 ∉ WA) (k9 : 19 ∉ WA) (h : q_am S1 S2 L) : q_am S S2 L := by
  obtain ⟨ii, a, b, f5, f5', f4, f4', p5, p4, n1, k1, w1⟩ := h
  have g8 := (m.2 18 _ sM_18 k8).1
  have g9 := (m.2 19 _ sM_19 k9).1
  exact ⟨ii, a, b, (m.1 0 35 _ sM_0 h5).symm.trans f5, f5', (m.1 0 34 _ sM_0 h4).symm.trans f4, f4', p5, p4, n1, fun j hj => by rw [← g8, ← g9]; exact k1 j hj, w1⟩
theorem q_am.to (h : q_am S S1 L) (e : L' = L) : q_am S S1 L' := by
  rw [e]
  exact h
theorem A5M.q (h : A5M S S1 t v) (f5 : S.1 0 35 = .int ii) (f4 : S.1 0 34 = .int a) (h5 : 0 ≤ ii.toInt) (h4 : 0 ≤ a.toInt) : q_am S S1 [d_2 t.toInt v.toInt] := by
  obtain ⟨b, g4, hb, g5, r8, r9⟩ := h ii a f5 f4
  refine ⟨ii, a, b, f5, g5, f4, g4, h5, h4, hb, fun j hj => ?_, fun j hj => ?_⟩
  · rw [r8, r9, dk_upd_o (by omega), dk_upd_o (by omega)]
    exact ⟨rfl, rfl⟩
  · have hj : j < 1 := hj
    have e : j = 0 := by omega
    subst e
    rw [r8, r9, Nat.add_zero, dk_upd_s, dk_upd_s]
    rfl
theorem JXM.z (f4 : S.1 0 34 = .int a) (f5 : S.1 0 35 = .int ii) (h5 : 0 ≤ ii.toInt) (h4 : 0 ≤ a.toInt) : JXM S S := fun om f => ⟨om, f, Nat.le_refl _, by rw [Nat.sub_self]; exact q_am.z f5 f4 h5 h4⟩
/-- one more is popped -/
theorem JXM.st {om om' : Int32} (h : JXM S S1) (f : S1.1 0 45 = .int om) (h1 : q_am S1 S2 [d_st (S.2.1 27 om'.toNatClampNeg).toInt]) (g : S2.1 0 45 = .int om') (ho : om'.toInt = om.toInt - 1) (h0 : 0 ≤ om'.toInt) : JXM S S2 := by
  intro om0 f0
  obtain ⟨x, fx, hx, q⟩ := h om0 f0
  cases f.symm.trans fx
  have c1 := dk_clN om
  have c2 := dk_clN om'
  have c0 := dk_clN om0
  refine ⟨om', g, by omega, (q.tr h1).to ?_⟩
  have e := x_seg_add (ops := S.2.1 27) (lo := om'.toNatClampNeg) (m := 1) (om0.toNatClampNeg - om.toNatClampNeg)
  rw [show om0.toNatClampNeg - om'.toNatClampNeg = 1 + (om0.toNatClampNeg - om.toNatClampNeg) by omega, e, show om'.toNatClampNeg + 1 = om.toNatClampNeg by omega, List.map_append]
  rfl
end QAM
section QAM2
variable {S S1 S2 : dg_S} {L : List Int} {kn ph p : Int} {bg : Bool} {nt o lv : Nat} {R : List m_F} {l : List Int} {X : x_F} {dp on om fx x : Int32}
theorem q_am.mv (h : q_am S S1 L) (e4 : S2.1 0 34 = S1.1 0 34) (e5 : S2.1 0 35 = S1.1 0 35) (e8 : S2.2.1 18 = S1.2.1 18) (e9 : S2.2.1 19 = S1.2.1 19) : q_am S S2 L := by
  obtain ⟨ii, a, b, f5, f5', f4, f4', p5, p4, n1, k1, w1⟩ := h
  exact ⟨ii, a, b, f5, e5.trans f5', f4, e4.trans f4', p5, p4, n1, fun j hj => by rw [e8, e9]; exact k1 j hj, fun j hj => by rw [e8, e9]; exact w1 j hj⟩
theorem q_am.fs (h : q_am S1 S2 L) (e4 : S1.1 0 34 = S.1 0 34) (e5 : S1.1 0 35 = S.1 0 35) (e8 : S1.2.1 18 = S.2.1 18) (e9 : S1.2.1 19 = S.2.1 19) : q_am S S2 L := by
  obtain ⟨ii, a, b, f5, f5', f4, f4', p5, p4, n1, k1, w1⟩ := h
  exact ⟨ii, a, b, e5.symm.trans f5, f5', e4.symm.trans f4, f4', p5, p4, n1, fun j hj => by rw [← e8, ← e9]; exact k1 j hj, w1⟩
theorem d_2_0 {t : Int} : d_2 t 0 = d_st t := by
  unfold d_2
  by_cases h : t = 0
  · rw [if_pos h, h]
    decide
  · rw [if_neg h]
theorem x_seg_cn {ops : Nat → Int32} {lo : Nat} : ∀ {n : Nat}, n_cn (x_seg ops lo n) = c_n ops lo (lo + n)
  | 0 => (c_n_nil (ops := ops) (lo := lo)).symm
  | n + 1 => by
    have ih := x_seg_cn (ops := ops) (lo := lo) (n := n)
    have mn := dk_cnt_mono (f := ops) (k := 43) (show lo ≤ lo + n by omega)
    show (if (ops (lo + n)).toInt = 43 then 1 else 0) + n_cn (x_seg ops lo n) = c_n ops lo (lo + n + 1)
    rw [ih]
    unfold c_n
    rcases dk_cnt_s ops 43 (lo + n) with ⟨a, b⟩ | ⟨a, b⟩
    · rw [if_pos a, b]
      omega
    · rw [if_neg a, b]
      omega
/-- how many NOTs: both told alike -/
theorem XFM.cn (h : XFM l p X S) (T : TFM kn ph bg nt R o S) (f1 : S.1 0 42 = .int dp) (f2 : S.1 0 43 = .int on) (f3 : S.1 0 45 = .int om) : n_cn l = nt := by
  obtain ⟨d, hd, a1, a2, a3, a4, a5, a6, a7, a8⟩ := T.inv f1 f2 f3
  obtain ⟨e1, e2, e3⟩ := h.inv f1 f3 hd
  rw [e1, x_seg_cn, a4, show (S.2.1 26 d).toInt.toNat + (om.toNatClampNeg - (S.2.1 26 d).toInt.toNat) = om.toNatClampNeg by omega]
theorem n_cn_hi {lv : Int} (h : n_cn l = nt) (h2 : n_cn (n_lo lv l) = 0) : n_cn (n_hi lv l) = nt := by
  have e : n_hi lv l ++ n_lo lv l = l := List.takeWhile_append_dropWhile
  have := n_cn_app (n_hi lv l) (n_lo lv l)
  rw [e] at this
  omega
/-- the pair as it is read -/
theorem XFM.pv (h : XFM l p X S) (T : TFM kn ph bg nt R o S) (f1 : S.1 0 42 = .int dp) (f2 : S.1 0 43 = .int on) (f3 : S.1 0 45 = .int om) (hf : fx.toInt = dp.toInt - 1) (e : S.2.1 25 fx.toNatClampNeg = x) : p = x.toInt := by
  obtain ⟨d, hd, a1, a2, a3, a4, a5, a6, a7, a8⟩ := T.inv f1 f2 f3
  obtain ⟨e1, e2, e3⟩ := h.inv f1 f3 hd
  have c1 := dk_clN dp
  have c2 := dk_clN fx
  rw [e2, ← e, show fx.toNatClampNeg = d by omega]
end QAM2
end
section
/-! the reference's bank, while it is told (sizes and counts: see kI and what GSM tells) -/
def mc (S : dg_S) (ii : Int32) (w : Nat) (C : List Int) : Prop := (C = [] ∧ (S.2.1 16 (3 * ii.toNatClampNeg + w)).toInt = -1) ∨ ∃ (fr : Int) (cd : Int32), 0 ≤ fr ∧ S.1 0 34 = .int cd ∧ fr + C.length ≤ cd.toInt ∧ (S.2.1 16 (3 * ii.toNatClampNeg + w)).toInt = fr ∧ (S.2.1 17 (3 * ii.toNatClampNeg + w)).toInt = fr + C.length ∧ ∀ i : Nat, i < C.length → d_2 (S.2.1 18 (1600 * ii.toNatClampNeg + fr.toNat + i)).toInt (S.2.1 19 (1600 * ii.toNatClampNeg + fr.toNat + i)).toInt = C.getD i 0
def km (d : k_D) (S : dg_S) : Prop := ∃ ii : Int32, S.1 0 35 = .int ii ∧ 0 ≤ ii.toInt ∧ (S.2.1 4 ii.toNatClampNeg).toInt = d.1 0 2 ∧ (S.2.1 5 ii.toNatClampNeg).toInt = d.1 0 3 ∧ (S.2.1 6 ii.toNatClampNeg).toInt = d.1 0 4 ∧ (∀ c : Nat, c < 64 → (S.2.1 7 (64 * ii.toNatClampNeg + c)).toInt = d.1 1 c) ∧ (∀ k : Nat, k < 16 → (k : Int) < d.1 0 6 → (S.2.1 10 (16 * ii.toNatClampNeg + k)).toInt = d.1 5 k ∧ (S.2.1 11 (16 * ii.toNatClampNeg + k)).toInt = d.1 6 k) ∧ (∀ k : Nat, k < 5 → (k : Int) < d.1 0 7 → (S.2.1 13 (5 * ii.toNatClampNeg + k)).toInt = d.1 2 k ∧ (S.2.1 14 (5 * ii.toNatClampNeg + k)).toInt = d.1 3 k ∧ (S.2.1 15 (5 * ii.toNatClampNeg + k)).toInt = d.1 4 k) ∧ ∀ w, w < 3 → mc S ii w (d.2 w)
/-- what is told beside it -/
def kI (σ : y_S) (d : k_D) : Prop := d.1 0 0 = σ.1.1 ∧ d.1 0 1 = σ.1.2 ∧ d.1 0 5 = σ.2.1.length ∧ d.1 0 6 = σ.2.2.1 ∧ d.1 0 7 = σ.2.2.2.1.length
section KM
variable {S S1 : dg_S} {G : aR} {K : Nat → List Int} {d : k_D} {ii v v1 v2 v3 cd cd' : Int32} {n : Nat} {C : List Int}
theorem mc.keep {w : Nat} (h : mc S ii w C) (f34 : S1.1 0 34 = S.1 0 34) (e16 : S1.2.1 16 = S.2.1 16) (e17 : S1.2.1 17 = S.2.1 17) (e18 : S1.2.1 18 = S.2.1 18) (e19 : S1.2.1 19 = S.2.1 19) : mc S1 ii w C := by
  unfold mc at h ⊢
  rw [f34, e16, e17, e18, e19]
  exact h
theorem km.same (h : km (G, K) S) (f35 : S1.1 0 35 = S.1 0 35) (f34 : S1.1 0 34 = S.1 0 34) (e4 : S1.2.1 4 = S.2.1 4) (e5 : S1.2.1 5 = S.2.1 5) (e6 : S1.2.1 6 = S.2.1 6) (e7 : S1.2.1 7 = S.2.1 7) (e10 : S1.2.1 10 = S.2.1 10) (e11 : S1.2.1 11 = S.2.1 11) (e13 : S1.2.1 13 = S.2.1 13) (e14 : S1.2.1 14 = S.2.1 14) (e15 : S1.2.1 15 = S.2.1 15) (e16 : S1.2.1 16 = S.2.1 16) (e17 : S1.2.1 17 = S.2.1 17) (e18 : S1.2.1 18 = S.2.1 18) (e19 : S1.2.1 19 = S.2.1 19)  : km (G, K) S1 := by
  obtain ⟨ii0, fi, h0, a4, a5, a6, a7, hp, ho, hk⟩ := h
  have u : ∀ j, True → G 0 j = G 0 j := fun j _ => rfl
  have ur : ∀ r j, True → G r j = G r j := fun r j _ => rfl
  refine ⟨ii0, f35.trans fi, h0, ?_, ?_, ?_, fun c hc => ?_, fun k hk1 hk2 => ?_, fun k hk1 hk2 => ?_, fun w hw => ?_⟩
  · rw [e4]
    exact a4.trans (u 2 trivial).symm
  · rw [e5]
    exact a5.trans (u 3 trivial).symm
  · rw [e6]
    exact a6.trans (u 4 trivial).symm
  · rw [e7]
    exact (a7 c hc).trans (ur 1 c trivial).symm
  · have hk2 : (k : Int) < G 0 6 := by rw [← u 6 trivial]; exact hk2
    rw [e10, e11]
    exact ⟨(hp k hk1 hk2).1.trans (ur 5 k trivial).symm, (hp k hk1 hk2).2.trans (ur 6 k trivial).symm⟩
  · have hk2 : (k : Int) < G 0 7 := by rw [← u 7 trivial]; exact hk2
    rw [e13, e14, e15]
    exact ⟨(ho k hk1 hk2).1.trans (ur 2 k trivial).symm, (ho k hk1 hk2).2.1.trans (ur 3 k trivial).symm, (ho k hk1 hk2).2.2.trans (ur 4 k trivial).symm⟩
  · exact (hk w hw).keep f34 e16 e17 e18 e19
theorem km.shaft (h : km (G, K) S) (f35 : S1.1 0 35 = S.1 0 35) (f34 : S1.1 0 34 = S.1 0 34) (e5 : S1.2.1 5 = S.2.1 5) (e6 : S1.2.1 6 = S.2.1 6) (e7 : S1.2.1 7 = S.2.1 7) (e10 : S1.2.1 10 = S.2.1 10) (e11 : S1.2.1 11 = S.2.1 11) (e13 : S1.2.1 13 = S.2.1 13) (e14 : S1.2.1 14 = S.2.1 14) (e15 : S1.2.1 15 = S.2.1 15) (e16 : S1.2.1 16 = S.2.1 16) (e17 : S1.2.1 17 = S.2.1 17) (e18 : S1.2.1 18 = S.2.1 18) (e19 : S1.2.1 19 = S.2.1 19) (fi2 : S.1 0 35 = .int ii) (q : S1.2.1 4 = upd (S.2.1 4) ii.toNatClampNeg v) : km (s_up G 0 2 v.toInt, K) S1 := by
  obtain ⟨ii0, fi, h0, a4, a5, a6, a7, hp, ho, hk⟩ := h
  cases fi.symm.trans fi2
  have u : ∀ j, j ≠ 2 → (s_up G 0 2 v.toInt) 0 j = G 0 j := fun j hj => s_up_i hj
  have ur : ∀ r j, r ≠ 0 → (s_up G 0 2 v.toInt) r j = G r j := fun r j hr => s_up_r hr
  refine ⟨ii, f35.trans fi, h0, ?_, ?_, ?_, fun c hc => ?_, fun k hk1 hk2 => ?_, fun k hk1 hk2 => ?_, fun w hw => ?_⟩
  · rw [q, dk_upd_s]
    show _ = s_up G 0 2 v.toInt 0 2
    exact s_up_at.symm
  · rw [e5]
    exact a5.trans (u 3 (by decide)).symm
  · rw [e6]
    exact a6.trans (u 4 (by decide)).symm
  · rw [e7]
    exact (a7 c hc).trans (ur 1 c (by decide)).symm
  · have hk2 : (k : Int) < G 0 6 := by rw [← u 6 (by decide)]; exact hk2
    rw [e10, e11]
    exact ⟨(hp k hk1 hk2).1.trans (ur 5 k (by decide)).symm, (hp k hk1 hk2).2.trans (ur 6 k (by decide)).symm⟩
  · have hk2 : (k : Int) < G 0 7 := by rw [← u 7 (by decide)]; exact hk2
    rw [e13, e14, e15]
    exact ⟨(ho k hk1 hk2).1.trans (ur 2 k (by decide)).symm, (ho k hk1 hk2).2.1.trans (ur 3 k (by decide)).symm, (ho k hk1 hk2).2.2.trans (ur 4 k (by decide)).symm⟩
  · exact (hk w hw).keep f34 e16 e17 e18 e19
theorem km.reach (h : km (G, K) S) (f35 : S1.1 0 35 = S.1 0 35) (f34 : S1.1 0 34 = S.1 0 34) (e4 : S1.2.1 4 = S.2.1 4) (e6 : S1.2.1 6 = S.2.1 6) (e7 : S1.2.1 7 = S.2.1 7) (e10 : S1.2.1 10 = S.2.1 10) (e11 : S1.2.1 11 = S.2.1 11) (e13 : S1.2.1 13 = S.2.1 13) (e14 : S1.2.1 14 = S.2.1 14) (e15 : S1.2.1 15 = S.2.1 15) (e16 : S1.2.1 16 = S.2.1 16) (e17 : S1.2.1 17 = S.2.1 17) (e18 : S1.2.1 18 = S.2.1 18) (e19 : S1.2.1 19 = S.2.1 19) (fi2 : S.1 0 35 = .int ii) (q : S1.2.1 5 = upd (S.2.1 5) ii.toNatClampNeg v) : km (s_up G 0 3 v.toInt, K) S1 := by
  obtain ⟨ii0, fi, h0, a4, a5, a6, a7, hp, ho, hk⟩ := h
  cases fi.symm.trans fi2
  have u : ∀ j, j ≠ 3 → (s_up G 0 3 v.toInt) 0 j = G 0 j := fun j hj => s_up_i hj
  have ur : ∀ r j, r ≠ 0 → (s_up G 0 3 v.toInt) r j = G r j := fun r j hr => s_up_r hr
  refine ⟨ii, f35.trans fi, h0, ?_, ?_, ?_, fun c hc => ?_, fun k hk1 hk2 => ?_, fun k hk1 hk2 => ?_, fun w hw => ?_⟩
  · rw [e4]
    exact a4.trans (u 2 (by decide)).symm
  · rw [q, dk_upd_s]
    show _ = s_up G 0 3 v.toInt 0 3
    exact s_up_at.symm
  · rw [e6]
    exact a6.trans (u 4 (by decide)).symm
  · rw [e7]
    exact (a7 c hc).trans (ur 1 c (by decide)).symm
  · have hk2 : (k : Int) < G 0 6 := by rw [← u 6 (by decide)]; exact hk2
    rw [e10, e11]
    exact ⟨(hp k hk1 hk2).1.trans (ur 5 k (by decide)).symm, (hp k hk1 hk2).2.trans (ur 6 k (by decide)).symm⟩
  · have hk2 : (k : Int) < G 0 7 := by rw [← u 7 (by decide)]; exact hk2
    rw [e13, e14, e15]
    exact ⟨(ho k hk1 hk2).1.trans (ur 2 k (by decide)).symm, (ho k hk1 hk2).2.1.trans (ur 3 k (by decide)).symm, (ho k hk1 hk2).2.2.trans (ur 4 k (by decide)).symm⟩
  · exact (hk w hw).keep f34 e16 e17 e18 e19
theorem km.quake (h : km (G, K) S) (f35 : S1.1 0 35 = S.1 0 35) (f34 : S1.1 0 34 = S.1 0 34) (e4 : S1.2.1 4 = S.2.1 4) (e5 : S1.2.1 5 = S.2.1 5) (e7 : S1.2.1 7 = S.2.1 7) (e10 : S1.2.1 10 = S.2.1 10) (e11 : S1.2.1 11 = S.2.1 11) (e13 : S1.2.1 13 = S.2.1 13) (e14 : S1.2.1 14 = S.2.1 14) (e15 : S1.2.1 15 = S.2.1 15) (e16 : S1.2.1 16 = S.2.1 16) (e17 : S1.2.1 17 = S.2.1 17) (e18 : S1.2.1 18 = S.2.1 18) (e19 : S1.2.1 19 = S.2.1 19) (fi2 : S.1 0 35 = .int ii) (q : S1.2.1 6 = upd (S.2.1 6) ii.toNatClampNeg v) : km (s_up G 0 4 v.toInt, K) S1 := by
  obtain ⟨ii0, fi, h0, a4, a5, a6, a7, hp, ho, hk⟩ := h
  cases fi.symm.trans fi2
  have u : ∀ j, j ≠ 4 → (s_up G 0 4 v.toInt) 0 j = G 0 j := fun j hj => s_up_i hj
  have ur : ∀ r j, r ≠ 0 → (s_up G 0 4 v.toInt) r j = G r j := fun r j hr => s_up_r hr
  refine ⟨ii, f35.trans fi, h0, ?_, ?_, ?_, fun c hc => ?_, fun k hk1 hk2 => ?_, fun k hk1 hk2 => ?_, fun w hw => ?_⟩
  · rw [e4]
    exact a4.trans (u 2 (by decide)).symm
  · rw [e5]
    exact a5.trans (u 3 (by decide)).symm
  · rw [q, dk_upd_s]
    show _ = s_up G 0 4 v.toInt 0 4
    exact s_up_at.symm
  · rw [e7]
    exact (a7 c hc).trans (ur 1 c (by decide)).symm
  · have hk2 : (k : Int) < G 0 6 := by rw [← u 6 (by decide)]; exact hk2
    rw [e10, e11]
    exact ⟨(hp k hk1 hk2).1.trans (ur 5 k (by decide)).symm, (hp k hk1 hk2).2.trans (ur 6 k (by decide)).symm⟩
  · have hk2 : (k : Int) < G 0 7 := by rw [← u 7 (by decide)]; exact hk2
    rw [e13, e14, e15]
    exact ⟨(ho k hk1 hk2).1.trans (ur 2 k (by decide)).symm, (ho k hk1 hk2).2.1.trans (ur 3 k (by decide)).symm, (ho k hk1 hk2).2.2.trans (ur 4 k (by decide)).symm⟩
  · exact (hk w hw).keep f34 e16 e17 e18 e19
theorem km.grade (h : km (G, K) S) (f35 : S1.1 0 35 = S.1 0 35) (f34 : S1.1 0 34 = S.1 0 34) (e4 : S1.2.1 4 = S.2.1 4) (e5 : S1.2.1 5 = S.2.1 5) (e6 : S1.2.1 6 = S.2.1 6) (e10 : S1.2.1 10 = S.2.1 10) (e11 : S1.2.1 11 = S.2.1 11) (e13 : S1.2.1 13 = S.2.1 13) (e14 : S1.2.1 14 = S.2.1 14) (e15 : S1.2.1 15 = S.2.1 15) (e16 : S1.2.1 16 = S.2.1 16) (e17 : S1.2.1 17 = S.2.1 17) (e18 : S1.2.1 18 = S.2.1 18) (e19 : S1.2.1 19 = S.2.1 19) (fi2 : S.1 0 35 = .int ii) {i : Nat} (q : S1.2.1 7 = upd (S.2.1 7) i v) (hi : i = 64 * ii.toNatClampNeg + n) : km (s_up G 1 n v.toInt, K) S1 := by
  obtain ⟨ii0, fi, h0, a4, a5, a6, a7, hp, ho, hk⟩ := h
  cases fi.symm.trans fi2
  have u : ∀ j, True → (s_up G 1 n v.toInt) 0 j = G 0 j := fun j _ => s_up_r (by decide)
  have ur : ∀ r j, r ≠ 1 → (s_up G 1 n v.toInt) r j = G r j := fun r j hr => s_up_r hr
  refine ⟨ii, f35.trans fi, h0, ?_, ?_, ?_, fun c hc => ?_, fun k hk1 hk2 => ?_, fun k hk1 hk2 => ?_, fun w hw => ?_⟩
  · rw [e4]
    exact a4.trans (u 2 trivial).symm
  · rw [e5]
    exact a5.trans (u 3 trivial).symm
  · rw [e6]
    exact a6.trans (u 4 trivial).symm
  · show _ = s_up G 1 n v.toInt 1 c
    rw [q]
    by_cases z : c = n
    · rw [z, upd_at hi.symm, s_up_at]
    · rw [dk_upd_o (by omega), s_up_i z]
      exact a7 c hc
  · have hk2 : (k : Int) < G 0 6 := by rw [← u 6 trivial]; exact hk2
    rw [e10, e11]
    exact ⟨(hp k hk1 hk2).1.trans (ur 5 k (by decide)).symm, (hp k hk1 hk2).2.trans (ur 6 k (by decide)).symm⟩
  · have hk2 : (k : Int) < G 0 7 := by rw [← u 7 trivial]; exact hk2
    rw [e13, e14, e15]
    exact ⟨(ho k hk1 hk2).1.trans (ur 2 k (by decide)).symm, (ho k hk1 hk2).2.1.trans (ur 3 k (by decide)).symm, (ho k hk1 hk2).2.2.trans (ur 4 k (by decide)).symm⟩
  · exact (hk w hw).keep f34 e16 e17 e18 e19
theorem km.miner (h : km (G, K) S) (f35 : S1.1 0 35 = S.1 0 35) (f34 : S1.1 0 34 = S.1 0 34) (e4 : S1.2.1 4 = S.2.1 4) (e5 : S1.2.1 5 = S.2.1 5) (e6 : S1.2.1 6 = S.2.1 6) (e7 : S1.2.1 7 = S.2.1 7) (e10 : S1.2.1 10 = S.2.1 10) (e11 : S1.2.1 11 = S.2.1 11) (e13 : S1.2.1 13 = S.2.1 13) (e14 : S1.2.1 14 = S.2.1 14) (e15 : S1.2.1 15 = S.2.1 15) (e16 : S1.2.1 16 = S.2.1 16) (e17 : S1.2.1 17 = S.2.1 17) (e18 : S1.2.1 18 = S.2.1 18) (e19 : S1.2.1 19 = S.2.1 19)  : km (s_up G 0 5 (G 0 5 + 1), K) S1 := by
  obtain ⟨ii0, fi, h0, a4, a5, a6, a7, hp, ho, hk⟩ := h
  have u : ∀ j, j ≠ 5 → (s_up G 0 5 (G 0 5 + 1)) 0 j = G 0 j := fun j hj => s_up_i hj
  have ur : ∀ r j, r ≠ 0 → (s_up G 0 5 (G 0 5 + 1)) r j = G r j := fun r j hr => s_up_r hr
  refine ⟨ii0, f35.trans fi, h0, ?_, ?_, ?_, fun c hc => ?_, fun k hk1 hk2 => ?_, fun k hk1 hk2 => ?_, fun w hw => ?_⟩
  · rw [e4]
    exact a4.trans (u 2 (by decide)).symm
  · rw [e5]
    exact a5.trans (u 3 (by decide)).symm
  · rw [e6]
    exact a6.trans (u 4 (by decide)).symm
  · rw [e7]
    exact (a7 c hc).trans (ur 1 c (by decide)).symm
  · have hk2 : (k : Int) < G 0 6 := by rw [← u 6 (by decide)]; exact hk2
    rw [e10, e11]
    exact ⟨(hp k hk1 hk2).1.trans (ur 5 k (by decide)).symm, (hp k hk1 hk2).2.trans (ur 6 k (by decide)).symm⟩
  · have hk2 : (k : Int) < G 0 7 := by rw [← u 7 (by decide)]; exact hk2
    rw [e13, e14, e15]
    exact ⟨(ho k hk1 hk2).1.trans (ur 2 k (by decide)).symm, (ho k hk1 hk2).2.1.trans (ur 3 k (by decide)).symm, (ho k hk1 hk2).2.2.trans (ur 4 k (by decide)).symm⟩
  · exact (hk w hw).keep f34 e16 e17 e18 e19
theorem km.seam (h : km (G, K) S) (f35 : S1.1 0 35 = S.1 0 35) (f34 : S1.1 0 34 = S.1 0 34) (e4 : S1.2.1 4 = S.2.1 4) (e5 : S1.2.1 5 = S.2.1 5) (e6 : S1.2.1 6 = S.2.1 6) (e7 : S1.2.1 7 = S.2.1 7) (e10 : S1.2.1 10 = S.2.1 10) (e11 : S1.2.1 11 = S.2.1 11) (e13 : S1.2.1 13 = S.2.1 13) (e14 : S1.2.1 14 = S.2.1 14) (e15 : S1.2.1 15 = S.2.1 15) (e16 : S1.2.1 16 = S.2.1 16) (e17 : S1.2.1 17 = S.2.1 17) (e18 : S1.2.1 18 = S.2.1 18) (e19 : S1.2.1 19 = S.2.1 19) (z2 : G 0 2 = 0) : km (s_up (s_up (s_up G 0 0 v.toInt) 0 1 v1.toInt) 0 2 0, K) S1 := by
  obtain ⟨ii0, fi, h0, a4, a5, a6, a7, hp, ho, hk⟩ := h
  have u : ∀ j, j ≠ 0 → j ≠ 1 → (s_up (s_up (s_up G 0 0 v.toInt) 0 1 v1.toInt) 0 2 0) 0 j = G 0 j := fun j h1 h2 => by by_cases q : j = 2; rw [q, s_up_at, z2]; rw [s_up_i q, s_up_i h2, s_up_i h1]
  have ur : ∀ r j, r ≠ 0 → (s_up (s_up (s_up G 0 0 v.toInt) 0 1 v1.toInt) 0 2 0) r j = G r j := fun r j hr => by rw [s_up_r hr, s_up_r hr, s_up_r hr]
  refine ⟨ii0, f35.trans fi, h0, ?_, ?_, ?_, fun c hc => ?_, fun k hk1 hk2 => ?_, fun k hk1 hk2 => ?_, fun w hw => ?_⟩
  · rw [e4]
    exact a4.trans (u 2 (by decide) (by decide)).symm
  · rw [e5]
    exact a5.trans (u 3 (by decide) (by decide)).symm
  · rw [e6]
    exact a6.trans (u 4 (by decide) (by decide)).symm
  · rw [e7]
    exact (a7 c hc).trans (ur 1 c (by decide)).symm
  · have hk2 : (k : Int) < G 0 6 := by rw [← u 6 (by decide) (by decide)]; exact hk2
    rw [e10, e11]
    exact ⟨(hp k hk1 hk2).1.trans (ur 5 k (by decide)).symm, (hp k hk1 hk2).2.trans (ur 6 k (by decide)).symm⟩
  · have hk2 : (k : Int) < G 0 7 := by rw [← u 7 (by decide) (by decide)]; exact hk2
    rw [e13, e14, e15]
    exact ⟨(ho k hk1 hk2).1.trans (ur 2 k (by decide)).symm, (ho k hk1 hk2).2.1.trans (ur 3 k (by decide)).symm, (ho k hk1 hk2).2.2.trans (ur 4 k (by decide)).symm⟩
  · exact (hk w hw).keep f34 e16 e17 e18 e19
theorem km.dig (h : km (G, K) S) (f35 : S1.1 0 35 = S.1 0 35) (f34 : S1.1 0 34 = S.1 0 34) (e4 : S1.2.1 4 = S.2.1 4) (e5 : S1.2.1 5 = S.2.1 5) (e6 : S1.2.1 6 = S.2.1 6) (e7 : S1.2.1 7 = S.2.1 7) (e13 : S1.2.1 13 = S.2.1 13) (e14 : S1.2.1 14 = S.2.1 14) (e15 : S1.2.1 15 = S.2.1 15) (e16 : S1.2.1 16 = S.2.1 16) (e17 : S1.2.1 17 = S.2.1 17) (e18 : S1.2.1 18 = S.2.1 18) (e19 : S1.2.1 19 = S.2.1 19) (fi2 : S.1 0 35 = .int ii) {i : Nat} {x y : Int} (q0 : S1.2.1 10 = upd (S.2.1 10) i v) (q1 : S1.2.1 11 = upd (S.2.1 11) i v1) (hi : i = 16 * ii.toNatClampNeg + n) (hn : G 0 6 = n) (hn2 : n < 16) (hx : v.toInt = x) (hy : v1.toInt = y) : km (s_up (s_up (s_up G 5 (G 0 6).toNat x) 6 (G 0 6).toNat y) 0 6 (G 0 6 + 1), K) S1 := by
  obtain ⟨ii0, fi, h0, a4, a5, a6, a7, hp, ho, hk⟩ := h
  cases fi.symm.trans fi2
  have eN : (G 0 6).toNat = n := by omega
  have u : ∀ j, j ≠ 6 → (s_up (s_up (s_up G 5 (G 0 6).toNat x) 6 (G 0 6).toNat y) 0 6 (G 0 6 + 1)) 0 j = G 0 j := fun j hj => by rw [s_up_i hj, s_up_r (by decide), s_up_r (by decide)]
  have ur : ∀ r j, r ≠ 0 → r ≠ 5 → r ≠ 6 → (s_up (s_up (s_up G 5 (G 0 6).toNat x) 6 (G 0 6).toNat y) 0 6 (G 0 6 + 1)) r j = G r j := fun r j h0 h5 h6 => by rw [s_up_r h0, s_up_r h6, s_up_r h5]
  refine ⟨ii, f35.trans fi, h0, ?_, ?_, ?_, fun c hc => ?_, fun k hk1 hk2 => ?_, fun k hk1 hk2 => ?_, fun w hw => ?_⟩
  · rw [e4]
    exact a4.trans (u 2 (by decide)).symm
  · rw [e5]
    exact a5.trans (u 3 (by decide)).symm
  · rw [e6]
    exact a6.trans (u 4 (by decide)).symm
  · rw [e7]
    exact (a7 c hc).trans (ur 1 c (by decide) (by decide) (by decide)).symm
  · have hk2 : (k : Int) < G 0 6 + 1 := by
      have z : (s_up (s_up (s_up G 5 (G 0 6).toNat x) 6 (G 0 6).toNat y) 0 6 (G 0 6 + 1)) 0 6 = G 0 6 + 1 := s_up_at
      rw [← z]
      exact hk2
    show (S1.2.1 10 (16 * ii.toNatClampNeg + k)).toInt = (s_up (s_up (s_up G 5 (G 0 6).toNat x) 6 (G 0 6).toNat y) 0 6 (G 0 6 + 1)) 5 k ∧ (S1.2.1 11 (16 * ii.toNatClampNeg + k)).toInt = (s_up (s_up (s_up G 5 (G 0 6).toNat x) 6 (G 0 6).toNat y) 0 6 (G 0 6 + 1)) 6 k
    rw [q0, q1, eN]
    by_cases z : k = n
    · rw [upd_at (by omega), upd_at (by omega), s_up_r (by decide), s_up_r (by decide), z, s_up_at, s_up_r (by decide), s_up_at]
      exact ⟨hx, hy⟩
    · rw [dk_upd_o (by omega), dk_upd_o (by omega), s_up_r (by decide), s_up_r (by decide), s_up_i z, s_up_r (by decide), s_up_i z, s_up_r (by decide)]
      exact hp k hk1 (show (k : Int) < G 0 6 by omega)
  · have hk2 : (k : Int) < G 0 7 := by rw [← u 7 (by decide)]; exact hk2
    rw [e13, e14, e15]
    exact ⟨(ho k hk1 hk2).1.trans (ur 2 k (by decide) (by decide) (by decide)).symm, (ho k hk1 hk2).2.1.trans (ur 3 k (by decide) (by decide) (by decide)).symm, (ho k hk1 hk2).2.2.trans (ur 4 k (by decide) (by decide) (by decide)).symm⟩
  · exact (hk w hw).keep f34 e16 e17 e18 e19
theorem km.order (h : km (G, K) S) (f35 : S1.1 0 35 = S.1 0 35) (f34 : S1.1 0 34 = S.1 0 34) (e4 : S1.2.1 4 = S.2.1 4) (e5 : S1.2.1 5 = S.2.1 5) (e6 : S1.2.1 6 = S.2.1 6) (e7 : S1.2.1 7 = S.2.1 7) (e10 : S1.2.1 10 = S.2.1 10) (e11 : S1.2.1 11 = S.2.1 11) (e16 : S1.2.1 16 = S.2.1 16) (e17 : S1.2.1 17 = S.2.1 17) (e18 : S1.2.1 18 = S.2.1 18) (e19 : S1.2.1 19 = S.2.1 19) (fi2 : S.1 0 35 = .int ii) {i : Nat} (q0 : S1.2.1 13 = upd (S.2.1 13) i v) (q1 : S1.2.1 14 = upd (S.2.1 14) i v1) (q2 : S1.2.1 15 = upd (S.2.1 15) i v2) (hi : i = 5 * ii.toNatClampNeg + n) (hn : G 0 7 = n) (hn2 : n < 5) : km (s_up (s_up (s_up (s_up G 2 (G 0 7).toNat v.toInt) 3 (G 0 7).toNat v1.toInt) 4 (G 0 7).toNat v2.toInt) 0 7 (G 0 7 + 1), K) S1 := by
  obtain ⟨ii0, fi, h0, a4, a5, a6, a7, hp, ho, hk⟩ := h
  cases fi.symm.trans fi2
  have eN : (G 0 7).toNat = n := by omega
  have u : ∀ j, j ≠ 7 → (s_up (s_up (s_up (s_up G 2 (G 0 7).toNat v.toInt) 3 (G 0 7).toNat v1.toInt) 4 (G 0 7).toNat v2.toInt) 0 7 (G 0 7 + 1)) 0 j = G 0 j := fun j hj => by rw [s_up_i hj, s_up_r (by decide), s_up_r (by decide), s_up_r (by decide)]
  have ur : ∀ r j, r ≠ 0 → r ≠ 2 → r ≠ 3 → r ≠ 4 → (s_up (s_up (s_up (s_up G 2 (G 0 7).toNat v.toInt) 3 (G 0 7).toNat v1.toInt) 4 (G 0 7).toNat v2.toInt) 0 7 (G 0 7 + 1)) r j = G r j := fun r j h0 h2 h3 h4 => by rw [s_up_r h0, s_up_r h4, s_up_r h3, s_up_r h2]
  refine ⟨ii, f35.trans fi, h0, ?_, ?_, ?_, fun c hc => ?_, fun k hk1 hk2 => ?_, fun k hk1 hk2 => ?_, fun w hw => ?_⟩
  · rw [e4]
    exact a4.trans (u 2 (by decide)).symm
  · rw [e5]
    exact a5.trans (u 3 (by decide)).symm
  · rw [e6]
    exact a6.trans (u 4 (by decide)).symm
  · rw [e7]
    exact (a7 c hc).trans (ur 1 c (by decide) (by decide) (by decide) (by decide)).symm
  · have hk2 : (k : Int) < G 0 6 := by rw [← u 6 (by decide)]; exact hk2
    rw [e10, e11]
    exact ⟨(hp k hk1 hk2).1.trans (ur 5 k (by decide) (by decide) (by decide) (by decide)).symm, (hp k hk1 hk2).2.trans (ur 6 k (by decide) (by decide) (by decide) (by decide)).symm⟩
  · have hk2 : (k : Int) < G 0 7 + 1 := by
      have z : (s_up (s_up (s_up (s_up G 2 (G 0 7).toNat v.toInt) 3 (G 0 7).toNat v1.toInt) 4 (G 0 7).toNat v2.toInt) 0 7 (G 0 7 + 1)) 0 7 = G 0 7 + 1 := s_up_at
      rw [← z]
      exact hk2
    show (S1.2.1 13 (5 * ii.toNatClampNeg + k)).toInt = (s_up (s_up (s_up (s_up G 2 (G 0 7).toNat v.toInt) 3 (G 0 7).toNat v1.toInt) 4 (G 0 7).toNat v2.toInt) 0 7 (G 0 7 + 1)) 2 k ∧ (S1.2.1 14 (5 * ii.toNatClampNeg + k)).toInt = (s_up (s_up (s_up (s_up G 2 (G 0 7).toNat v.toInt) 3 (G 0 7).toNat v1.toInt) 4 (G 0 7).toNat v2.toInt) 0 7 (G 0 7 + 1)) 3 k ∧ (S1.2.1 15 (5 * ii.toNatClampNeg + k)).toInt = (s_up (s_up (s_up (s_up G 2 (G 0 7).toNat v.toInt) 3 (G 0 7).toNat v1.toInt) 4 (G 0 7).toNat v2.toInt) 0 7 (G 0 7 + 1)) 4 k
    rw [q0, q1, q2, eN]
    by_cases z : k = n
    · rw [upd_at (by omega), upd_at (by omega), upd_at (by omega), z, s_up_r (by decide), s_up_r (by decide), s_up_r (by decide), s_up_at, s_up_r (by decide), s_up_r (by decide), s_up_at, s_up_r (by decide), s_up_at]
      exact ⟨rfl, rfl, rfl⟩
    · rw [dk_upd_o (by omega), dk_upd_o (by omega), dk_upd_o (by omega), s_up_r (by decide), s_up_r (by decide), s_up_r (by decide), s_up_i z, s_up_r (by decide), s_up_r (by decide), s_up_i z, s_up_r (by decide), s_up_r (by decide), s_up_i z, s_up_r (by decide), s_up_r (by decide)]
      exact ho k hk1 (show (k : Int) < G 0 7 by omega)
  · exact (hk w hw).keep f34 e16 e17 e18 e19
theorem km.rule (h : km (G, K) S) (f35 : S1.1 0 35 = S.1 0 35) (e4 : S1.2.1 4 = S.2.1 4) (e5 : S1.2.1 5 = S.2.1 5) (e6 : S1.2.1 6 = S.2.1 6) (e7 : S1.2.1 7 = S.2.1 7) (e10 : S1.2.1 10 = S.2.1 10) (e11 : S1.2.1 11 = S.2.1 11) (e13 : S1.2.1 13 = S.2.1 13) (e14 : S1.2.1 14 = S.2.1 14) (e15 : S1.2.1 15 = S.2.1 15) (fi2 : S.1 0 35 = .int ii) (hn : n < 3) (q : q_am S S1 C) (fc : S.1 0 34 = .int cd) (fc' : S1.1 0 34 = .int cd') {i : Nat} (q16 : S1.2.1 16 = upd (S.2.1 16) i cd) (q17 : S1.2.1 17 = upd (S.2.1 17) i cd') (hi : i = 3 * ii.toNatClampNeg + n) {x : Int} (hx : x = n) : km (G, fun j => if (j : Int) = x then C else K j) S1 := by
  obtain ⟨ii0, fi, h0, a4, a5, a6, a7, hp, ho, hk⟩ := h
  cases fi.symm.trans fi2
  obtain ⟨jj, a, b, g5, g5', g4, g4', j0, s0, nb, k1, w1⟩ := q
  cases g5.symm.trans fi
  cases g4.symm.trans fc
  cases g4'.symm.trans fc'
  have ci := dk_clN ii
  refine ⟨ii, f35.trans fi, h0, by rw [e4]; exact a4, by rw [e5]; exact a5, by rw [e6]; exact a6, fun c hc => by rw [e7]; exact a7 c hc, fun k hk1 hk2 => by rw [e10, e11]; exact hp k hk1 hk2, fun k hk1 hk2 => by rw [e13, e14, e15]; exact ho k hk1 hk2, fun w hw => ?_⟩
  show mc S1 ii w (if (w : Int) = x then C else K w)
  by_cases e : w = n
  · rw [if_pos (by omega), e]
    refine Or.inr ⟨cd.toInt, cd', s0, fc', by omega, by rw [q16, upd_at hi.symm], by rw [q17, upd_at hi.symm]; exact nb, fun j hj => ?_⟩
    rw [show 1600 * ii.toNatClampNeg + cd.toInt.toNat + j = (1600 * ii.toInt + cd.toInt).toNat + j by omega]
    exact w1 j hj
  · rw [if_neg (by omega)]
    rcases hk w hw with ⟨c0, c1⟩ | ⟨fr, c2, p0, p1, p2, p3, p4, p5⟩
    · exact Or.inl ⟨c0, by rw [q16, dk_upd_o (by omega)]; exact c1⟩
    · cases p1.symm.trans fc
      have p2 : fr + ((K w).length : Int) ≤ cd.toInt := p2
      refine Or.inr ⟨fr, cd', p0, fc', by omega, by rw [q16, dk_upd_o (by omega)]; exact p3, by rw [q17, dk_upd_o (by omega)]; exact p4, fun j hj => ?_⟩
      obtain ⟨x1, x2⟩ := k1 (1600 * ii.toNatClampNeg + fr.toNat + j) (by have hj : j < (K w).length := hj; omega)
      rw [x1, x2]
      exact p5 j hj
end KM
end
section
/-! 20.str -/
def RJ0 : String := "java/lang/String"
abbrev cJ0_charAt_5068e : ByteArray := prog_17_method_56_code
def yJ0_charAt_5068e : MethodName := ⟨RJ0, "charAt", "(I)C"⟩
abbrev cJ0_isLatin1_aae02 : ByteArray := prog_17_method_154_code
def yJ0_isLatin1_aae02 : MethodName := ⟨RJ0, "isLatin1", "()Z"⟩
abbrev cJ0_checkIndex_df160 : ByteArray := prog_17_method_155_code
def yJ0_checkIndex_df160 : MethodName := ⟨RJ0, "checkIndex", "(II)V"⟩
def RJ1 : String := "java/lang/StringLatin1"
abbrev cJ1_charAt_3b067 : ByteArray := prog_18_method_2_code
def yJ1_charAt_3b067 : MethodName := ⟨RJ1, "charAt", "([BI)C"⟩
def RJ3 : String := "jdk/internal/util/Preconditions"
abbrev cJ3_checkIndex_8e157 : ByteArray := prog_22_method_11_code
def yJ3_checkIndex_8e157 : MethodName := ⟨RJ3, "checkIndex", "(IILjava/util/function/BiFunction;)I"⟩
theorem dJ0_charAt_5068e_0 : decode cJ0_charAt_5068e 0 = .ok (.aload_n 0, 1) := dk_o42 (by decide +kernel)
theorem dJ0_charAt_5068e_1 : decode cJ0_charAt_5068e 1 = .ok (.invokevirtual 492, 3) := dk_o182 (by decide +kernel)
theorem dJ0_charAt_5068e_4 : decode cJ0_charAt_5068e 4 = .ok (.ifCond .eq 12, 3) := dk_o153 (by decide +kernel)
theorem dJ0_charAt_5068e_7 : decode cJ0_charAt_5068e 7 = .ok (.aload_n 0, 1) := dk_o42 (by decide +kernel)
theorem dJ0_charAt_5068e_8 : decode cJ0_charAt_5068e 8 = .ok (.getfield 9, 3) := dk_o180 (by decide +kernel)
theorem dJ0_charAt_5068e_11 : decode cJ0_charAt_5068e 11 = .ok (.iload_n 1, 1) := dk_o27 (by decide +kernel)
theorem dJ0_charAt_5068e_12 : decode cJ0_charAt_5068e 12 = .ok (.invokestatic 495, 3) := dk_o184 (by decide +kernel)
theorem dJ0_charAt_5068e_15 : decode cJ0_charAt_5068e 15 = .ok (.ireturn, 1) := dk_o172 (by decide +kernel)
theorem dJ0_isLatin1_aae02_0 : decode cJ0_isLatin1_aae02 0 = .ok (.getstatic 38, 3) := dk_o178 (by decide +kernel)
theorem dJ0_isLatin1_aae02_3 : decode cJ0_isLatin1_aae02 3 = .ok (.ifCond .eq 14, 3) := dk_o153 (by decide +kernel)
theorem dJ0_isLatin1_aae02_6 : decode cJ0_isLatin1_aae02 6 = .ok (.aload_n 0, 1) := dk_o42 (by decide +kernel)
theorem dJ0_isLatin1_aae02_7 : decode cJ0_isLatin1_aae02 7 = .ok (.getfield 15, 3) := dk_o180 (by decide +kernel)
theorem dJ0_isLatin1_aae02_10 : decode cJ0_isLatin1_aae02 10 = .ok (.ifCond .ne 7, 3) := dk_o154 (by decide +kernel)
theorem dJ0_isLatin1_aae02_13 : decode cJ0_isLatin1_aae02 13 = .ok (.iconst 1, 1) := dk_o4 (by decide +kernel)
theorem dJ0_isLatin1_aae02_14 : decode cJ0_isLatin1_aae02 14 = .ok (.goto 4, 3) := dk_o167 (by decide +kernel)
theorem dJ0_isLatin1_aae02_18 : decode cJ0_isLatin1_aae02 18 = .ok (.ireturn, 1) := dk_o172 (by decide +kernel)
theorem dJ0_checkIndex_df160_0 : decode cJ0_checkIndex_df160 0 = .ok (.iload_n 0, 1) := dk_o26 (by decide +kernel)
theorem dJ0_checkIndex_df160_1 : decode cJ0_checkIndex_df160 1 = .ok (.iload_n 1, 1) := dk_o27 (by decide +kernel)
theorem dJ0_checkIndex_df160_2 : decode cJ0_checkIndex_df160 2 = .ok (.getstatic 1053, 3) := dk_o178 (by decide +kernel)
theorem dJ0_checkIndex_df160_5 : decode cJ0_checkIndex_df160 5 = .ok (.invokestatic 1059, 3) := dk_o184 (by decide +kernel)
theorem dJ0_checkIndex_df160_8 : decode cJ0_checkIndex_df160 8 = .ok (.pop, 1) := dk_o87 (by decide +kernel)
theorem dJ0_checkIndex_df160_9 : decode cJ0_checkIndex_df160 9 = .ok (.return_, 1) := dk_o177 (by decide +kernel)
theorem dJ1_charAt_3b067_0 : decode cJ1_charAt_3b067 0 = .ok (.iload_n 1, 1) := dk_o27 (by decide +kernel)
theorem dJ1_charAt_3b067_1 : decode cJ1_charAt_3b067 1 = .ok (.aload_n 0, 1) := dk_o42 (by decide +kernel)
theorem dJ1_charAt_3b067_2 : decode cJ1_charAt_3b067 2 = .ok (.arraylength, 1) := dk_o190 (by decide +kernel)
theorem dJ1_charAt_3b067_3 : decode cJ1_charAt_3b067 3 = .ok (.invokestatic 9, 3) := dk_o184 (by decide +kernel)
theorem dJ1_charAt_3b067_6 : decode cJ1_charAt_3b067 6 = .ok (.aload_n 0, 1) := dk_o42 (by decide +kernel)
theorem dJ1_charAt_3b067_7 : decode cJ1_charAt_3b067 7 = .ok (.iload_n 1, 1) := dk_o27 (by decide +kernel)
theorem dJ1_charAt_3b067_8 : decode cJ1_charAt_3b067 8 = .ok (.baload, 1) := dk_o51 (by decide +kernel)
theorem dJ1_charAt_3b067_9 : decode cJ1_charAt_3b067 9 = .ok (.sipush 255, 3) := dk_o17 (by decide +kernel)
theorem dJ1_charAt_3b067_12 : decode cJ1_charAt_3b067 12 = .ok (.iand, 1) := dk_o126 (by decide +kernel)
theorem dJ1_charAt_3b067_13 : decode cJ1_charAt_3b067 13 = .ok (.i2c, 1) := dk_o146 (by decide +kernel)
theorem dJ1_charAt_3b067_14 : decode cJ1_charAt_3b067 14 = .ok (.ireturn, 1) := dk_o172 (by decide +kernel)
theorem dJ3_checkIndex_8e157_0 : decode cJ3_checkIndex_8e157 0 = .ok (.iload_n 0, 1) := dk_o26 (by decide +kernel)
theorem dJ3_checkIndex_8e157_1 : decode cJ3_checkIndex_8e157 1 = .ok (.ifCond .lt 8, 3) := dk_o155 (by decide +kernel)
theorem dJ3_checkIndex_8e157_4 : decode cJ3_checkIndex_8e157 4 = .ok (.iload_n 0, 1) := dk_o26 (by decide +kernel)
theorem dJ3_checkIndex_8e157_5 : decode cJ3_checkIndex_8e157 5 = .ok (.iload_n 1, 1) := dk_o27 (by decide +kernel)
theorem dJ3_checkIndex_8e157_6 : decode cJ3_checkIndex_8e157 6 = .ok (.if_icmp .lt 10, 3) := dk_o161 (by decide +kernel)
theorem dJ3_checkIndex_8e157_16 : decode cJ3_checkIndex_8e157 16 = .ok (.iload_n 0, 1) := dk_o26 (by decide +kernel)
theorem dJ3_checkIndex_8e157_17 : decode cJ3_checkIndex_8e157 17 = .ok (.ireturn, 1) := dk_o172 (by decide +kernel)
theorem wB_155 : Cond.fieldLink RJ0 1053 "jdk/internal/util/Preconditions" "SIOOBE_FORMATTER" "Ljava/util/function/BiFunction;" ∈ dgB := List.mem_filter.mpr ⟨tbl_3 _ (List.mem_of_getElem? (i := 160) (by decide +kernel)), by decide +kernel⟩
theorem wB_156 : Cond.code yJ3_checkIndex_8e157 cJ3_checkIndex_8e157 3 (some .int) ∈ dgB := List.mem_filter.mpr ⟨tbl_3 _ (List.mem_of_getElem? (i := 164) rfl), rfl⟩
theorem wB_157 : Cond.methodLink RJ0 1059 yJ3_checkIndex_8e157 ∈ dgB := List.mem_filter.mpr ⟨tbl_3 _ (List.mem_of_getElem? (i := 162) (by decide +kernel)), by decide +kernel⟩
theorem wB_158 : Cond.static yJ3_checkIndex_8e157 ∈ dgB := List.mem_filter.mpr ⟨tbl_3 _ (List.mem_of_getElem? (i := 163) (by decide +kernel)), by decide +kernel⟩
theorem wB_159 : Cond.initialized RJ3 ∈ dgB := List.mem_filter.mpr ⟨tbl_1 _ (List.mem_of_getElem? (i := 18) (by decide +kernel)), by decide +kernel⟩
theorem wB_160 : Cond.code yJ0_checkIndex_df160 cJ0_checkIndex_df160 2 none ∈ dgB := List.mem_filter.mpr ⟨tbl_3 _ (List.mem_of_getElem? (i := 159) rfl), rfl⟩
theorem wB_161 : Cond.methodLink RJ1 9 yJ0_checkIndex_df160 ∈ dgB := List.mem_filter.mpr ⟨tbl_3 _ (List.mem_of_getElem? (i := 157) (by decide +kernel)), by decide +kernel⟩
theorem wB_162 : Cond.static yJ0_checkIndex_df160 ∈ dgB := List.mem_filter.mpr ⟨tbl_3 _ (List.mem_of_getElem? (i := 158) (by decide +kernel)), by decide +kernel⟩
theorem wB_163 : Cond.initialized RJ0 ∈ dgB := List.mem_filter.mpr ⟨tbl_1 _ (List.mem_of_getElem? (i := 16) (by decide +kernel)), by decide +kernel⟩
theorem wB_164 : Cond.fieldLink RJ0 38 "java/lang/String" "COMPACT_STRINGS" "Z" ∈ dgB := List.mem_filter.mpr ⟨tbl_3 _ (List.mem_of_getElem? (i := 152) (by decide +kernel)), by decide +kernel⟩
theorem wB_165 : Cond.fieldLink RJ0 15 "java/lang/String" "coder" "B" ∈ dgB := List.mem_filter.mpr ⟨tbl_9 _ (List.mem_of_getElem? (i := 183) (by decide +kernel)), by decide +kernel⟩
theorem wB_166 : Cond.methodLink RJ0 492 yJ0_isLatin1_aae02 ∈ dgB := List.mem_filter.mpr ⟨tbl_3 _ (List.mem_of_getElem? (i := 148) (by decide +kernel)), by decide +kernel⟩
theorem wB_167 : Cond.instanceMethod yJ0_isLatin1_aae02 ∈ dgB := List.mem_filter.mpr ⟨tbl_3 _ (List.mem_of_getElem? (i := 149) (by decide +kernel)), by decide +kernel⟩
theorem wB_168 : Cond.selects RJ0 yJ0_isLatin1_aae02 yJ0_isLatin1_aae02 ∈ dgB := List.mem_filter.mpr ⟨tbl_3 _ (List.mem_of_getElem? (i := 150) (by decide +kernel)), by decide +kernel⟩
theorem wB_169 : Cond.code yJ0_isLatin1_aae02 cJ0_isLatin1_aae02 1 (some .boolean) ∈ dgB := List.mem_filter.mpr ⟨tbl_3 _ (List.mem_of_getElem? (i := 151) rfl), rfl⟩
theorem wB_170 : Cond.fieldLink RJ0 9 "java/lang/String" "value" "[B" ∈ dgB := List.mem_filter.mpr ⟨tbl_9 _ (List.mem_of_getElem? (i := 184) (by decide +kernel)), by decide +kernel⟩
theorem wB_171 : Cond.code yJ1_charAt_3b067 cJ1_charAt_3b067 2 (some .char) ∈ dgB := List.mem_filter.mpr ⟨tbl_3 _ (List.mem_of_getElem? (i := 156) rfl), rfl⟩
theorem wB_172 : Cond.methodLink RJ0 495 yJ1_charAt_3b067 ∈ dgB := List.mem_filter.mpr ⟨tbl_3 _ (List.mem_of_getElem? (i := 154) (by decide +kernel)), by decide +kernel⟩
theorem wB_173 : Cond.static yJ1_charAt_3b067 ∈ dgB := List.mem_filter.mpr ⟨tbl_3 _ (List.mem_of_getElem? (i := 155) (by decide +kernel)), by decide +kernel⟩
theorem wB_174 : Cond.initialized RJ1 ∈ dgB := List.mem_filter.mpr ⟨tbl_1 _ (List.mem_of_getElem? (i := 17) (by decide +kernel)), by decide +kernel⟩
theorem wB_175 : Cond.methodLink RX9 67 yJ0_charAt_5068e ∈ dgB := List.mem_filter.mpr ⟨tbl_3 _ (List.mem_of_getElem? (i := 144) (by decide +kernel)), by decide +kernel⟩
theorem wB_176 : Cond.instanceMethod yJ0_charAt_5068e ∈ dgB := List.mem_filter.mpr ⟨tbl_3 _ (List.mem_of_getElem? (i := 145) (by decide +kernel)), by decide +kernel⟩
theorem wB_177 : Cond.selects RJ0 yJ0_charAt_5068e yJ0_charAt_5068e ∈ dgB := List.mem_filter.mpr ⟨tbl_3 _ (List.mem_of_getElem? (i := 146) (by decide +kernel)), by decide +kernel⟩
theorem wB_178 : Cond.code yJ0_charAt_5068e cJ0_charAt_5068e 2 (some .char) ∈ dgB := List.mem_filter.mpr ⟨tbl_3 _ (List.mem_of_getElem? (i := 147) rfl), rfl⟩
/-! the constant text of the OWN WORDS -/
section DGST0
variable {p : Program} {l : Launch} {e : Env} {R : Room} {s : State} {m : MethodId} {args : Array Value} {below : List Frame} {meth : Method} {c : Code} {H : Heap} {locs : List Loc} {cells slots : Nat} {Q : State → Prop}
variable {cc : ByteArray} {pc : Nat} {ls : Array Slot} {rest : List Value} {D : va_G} {A : Nat → Prop} {H0 : Heap} {g : Nat → ClassId} {sh : List dg_q} {o : Nat} {rf : dg_R} {S : dg_S}
abbrev dk_sS (a v : Nat) (A : Nat → Prop) (U : State) (H : Heap) : Prop := vk_S 1 [162] [dk_by] (fun _ => a) (fun _ => v) A U H
def dk_Pcs (g : Nat → ClassId) (D : va_G) (W : va_W) (sz a v : Nat) (av : List Value) : Array Value → State → Prop := va_Pc av (fun U => (U.heap.size = sz ∧ va_P D vwCl W U.heap ∧ dk_K g D U ∧ va_D (fun _ => True) W ∧ dk_ST (va_A W sz) U U.heap) ∧ dk_sS a v (va_A W sz) U U.heap)
theorem dk_blinds {W : va_W} {sz a v : Nat} {av : List Value} : FrameBlind (dk_Pcs g D W sz a v av) := by
  intro q U gf mk r
  obtain ⟨q0, ⟨q1, qP, qK, qD, qS⟩, qT⟩ := r
  exact ⟨q0, ⟨q1, qP, ⟨va_K.moved (u := U) (U := U.calling gf mk q) (Vm.Alike.refl U.vm) qK.1, dk_N.same (u := U) (U := U.calling gf mk q) rfl qK.2⟩, qD, dk_ST.same (u := U) (U := U.calling gf mk q) rfl qS⟩, vk_S.moved (u := U) (U := U.calling gf mk q) (Vm.Alike.refl U.vm) qT⟩
set_option maxHeartbeats 4000000 in
theorem dg_mets {y : MethodName} {ws ws' : List Cond} {rm : Room} {sz a v : Nat} {av : List Value} {Qc : Array Value → State → Outcome → State → Prop} {mc ms : Nat} {maxL : Nat} {ret : Option FieldType}
    (hy : plainName y.cls = true) (hw : ws = Cond.code y cc maxL ret :: ws') (hav : (lg_sl av).length ≤ maxL)
    (body : ∀ (p : Program) (e : Env) (s : State) (m : MethodId) (args : Array Value) (below : List Frame) (meth : Method) (c : Code) (A : Nat → Prop), A = dg_A o sh.length sz → args = av.toArray → p.tables.exec = Jvm.exec → c.code = cc → meth.sig.returnType = ret → c.maxLocals = maxL → (∀ w ∈ ws, w.before args s = true) → s.vm.findClass y.cls = some m.cls → meth.locks = false → meth.name = y.name →
      va_P D vwCl (dg_w g sh o rf S) s.heap → dk_K g D s → va_S A s.heap s.heap [] → (∀ i, i < sh.length → A (o + i)) → (∀ q : Nat, s.heap.size ≤ q → A q) → dk_ST A s s.heap → dk_sS a v A s s.heap → s.heap.size = sz → ∀ ls : Array Slot, lv_has ls maxL (lv_args 0 av) →
      W p l e rm s m args below meth c s.heap [] 0 0 (MQ below Qc args s mc ms A) (F0 m 0 ls [])) : Met l y ws rm (dk_Pcs g D (dg_w g sh o rf S) sz a v av) Qc mc ms (dg_A o sh.length sz) := by
  refine Met.ofW (cc := cc) (maxL := maxL) (ret := ret) hy hw ?_
  intro p e s m args below meth c s₁ B hml hv
  obtain ⟨rfl, ⟨hsz, hP, hK, hD0, hST⟩, hSt⟩ := hv
  have hl := lv_entry av (n := maxL) hav
  have hE : entryFrame m av.toArray maxL = F0 m 0 ((lg_sl av ++ List.replicate (maxL - (lg_sl av).length) Slot.unset).toArray) [] := lg_entry_eq ..
  rw [hE]
  subst hsz
  rw [dg_A_eq] at hST hSt
  exact body p e s m _ below meth c _ rfl rfl B.exec B.bytes B.returns hml (atoms_spec (ws := ws) B.pre) (findClass_of_methodNamed B.named) B.notSynchronized (name_of_methodNamed B.named B.method).1 hP hK va_S.rf (fun i hi => dg_A_in hi) (fun q h => Or.inr h) hST hSt rfl _ hl
theorem dg_preSs {As : List Value} {a v : Nat} (K : dk_K g D s) (ST : dk_ST A s s.heap) (hSt : dk_sS a v A s s.heap) (hP : va_P D vwCl (dg_w g sh o rf S) H) (hS : va_S A s.heap H locs) (hA1 : ∀ i, i < sh.length → A (o + i)) (hA : ∀ q, s.heap.size ≤ q → A q) : PreS s H (dk_Pcs g D (dg_w g sh o rf S) H.size a v As) As :=
  ⟨dk_blinds, fun U hU hW => ⟨rfl, ⟨by rw [hU], by rw [hU]; exact hP, K.warm hW, dg_D (fun _ _ => trivial), by rw [hU, dg_A_eq]; exact dk_ST.to hW hS (dg_A_sub hA1 hA hS) ST⟩, by rw [hU, dg_A_eq]; exact ((vk_S.moved hW.alike hSt).kept hS.2.1).narrow (dg_A_sub hA1 hA hS)⟩⟩
theorem dg_preVs {As : List Value} {a v : Nat} (K : dk_K g D s) (ST : dk_ST A s s.heap) (hSt : dk_sS a v A s s.heap) (hP : va_P D vwCl (dg_w g sh o rf S) H) (hS : va_S A s.heap H locs) (hA1 : ∀ i, i < sh.length → A (o + i)) (hA : ∀ q, s.heap.size ≤ q → A q) : PreV s H "java/lang/String" a (dk_Pcs g D (dg_w g sh o rf S) H.size a v (.ref a :: As)) As :=
  ⟨dk_blinds, vk_recv hSt (Nat.zero_lt_one) hS, fun U hU hW => ⟨rfl, ⟨by rw [hU], by rw [hU]; exact hP, K.warm hW, dg_D (fun _ _ => trivial), by rw [hU, dg_A_eq]; exact dk_ST.to hW hS (dg_A_sub hA1 hA hS) ST⟩, by rw [hU, dg_A_eq]; exact ((vk_S.moved hW.alike hSt).kept hS.2.1).narrow (dg_A_sub hA1 hA hS)⟩⟩
/-- a byte as a char -/
theorem dk_nch {x z w : Int32} (ez : z = x &&& 255) (ew : w = (z.toUInt32 % 65536).toInt32) : narrow .char (.int w) = .int w := by
  obtain ⟨j, hj, ej⟩ := pk_andE x (m := 255) 8 (by decide +kernel)
  have all : ∀ j : Nat, j < 256 → narrow .char (.int ((nI j).toUInt32 % 65536).toInt32) = .int ((nI j).toUInt32 % 65536).toInt32 := by decide +kernel
  rw [ew, ez, ej]
  exact all j hj
end DGST0
set_option maxHeartbeats 4000000 in
theorem c_J3n (l : Launch) (g : Nat → ClassId) (D : va_G) {sh : List dg_q} {rf : dg_R} (o : Nat) (S : dg_S) (x y : Int32) (h0 : 0 ≤ x.toInt) (h1 : x.toInt < y.toInt) (sz : Nat) : Met l yJ3_checkIndex_8e157 (bw yJ3_checkIndex_8e157 cJ3_checkIndex_8e157 3 (some .int)) ({ frames := 1, cells := 0, slots := 0, locals := 32 } : Room) (dk_Pc g D (dg_w g sh o rf S) sz [.int x, .int y, .null]) (va_Qi (fun (r : Int32) S' => S' = S ∧ True) (dg_B g D sh o rf) (dg_A o sh.length sz)) 0 0 (dg_A o sh.length sz) := by
  refine dg_met (cc := cJ3_checkIndex_8e157) (maxL := 3) (ret := (some .int)) (dk_dq rfl) rfl (Nat.le_of_ble_eq_true rfl) ?_
  intro p e s m args below meth c A hAe harg hx hb hr hml hts hown hlocks hin hP K hS hA1 hA ST hsz ls hl
  rw [← hAe]
  have F : CallFix p m c cJ3_checkIndex_8e157 3 s args (bw yJ3_checkIndex_8e157 cJ3_checkIndex_8e157 3 (some .int)) RJ3 := ⟨hx, hb, hml, hown, hts⟩
  have hl : lv_has ls 3 [(0, .int x), (1, .int y), (2, .null)] := hl
  refine lv_iload_n hx hb dJ3_checkIndex_8e157_0 rfl (lv_at hl 0 rfl) ?_
  refine lv_if_lt (tgt := 9) hx hb dJ3_checkIndex_8e157_1 (dk_dq rfl) (fun c => absurd (dk_ltc (k := 0) (by decide +kernel) c) (by omega)) (fun _ => ?_)
  refine lv_iload_n hx hb dJ3_checkIndex_8e157_4 rfl (lv_at hl 0 rfl) ?_
  refine lv_iload_n hx hb dJ3_checkIndex_8e157_5 rfl (lv_at hl 1 rfl) ?_
  refine lv_icmp_lt (tgt := 16) hx hb dJ3_checkIndex_8e157_6 (dk_dq rfl) (fun _ => ?_) (fun c => absurd (dk_ltp (k := (y).toInt) rfl (by omega)) c)
  refine lv_iload_n hx hb dJ3_checkIndex_8e157_16 rfl (lv_at hl 0 rfl) ?_
  refine W.widen (k := 0) (n := 0) (Nat.le_of_ble_eq_true rfl) (Nat.le_of_ble_eq_true rfl) ?_
  exact dg_iret hx hb hr hlocks rfl hP hS ⟨rfl, trivial⟩ dJ3_checkIndex_8e157_17
set_option maxHeartbeats 4000000 in
theorem c_J3r (l : Launch) (g : Nat → ClassId) (D : va_G) {sh : List dg_q} {rf : dg_R} (o : Nat) (S : dg_S) (x y : Int32) (q9 : Nat) (h0 : 0 ≤ x.toInt) (h1 : x.toInt < y.toInt) (sz : Nat) : Met l yJ3_checkIndex_8e157 (bw yJ3_checkIndex_8e157 cJ3_checkIndex_8e157 3 (some .int)) ({ frames := 1, cells := 0, slots := 0, locals := 32 } : Room) (dk_Pc g D (dg_w g sh o rf S) sz [.int x, .int y, .ref q9]) (va_Qi (fun (r : Int32) S' => S' = S ∧ True) (dg_B g D sh o rf) (dg_A o sh.length sz)) 0 0 (dg_A o sh.length sz) := by
  refine dg_met (cc := cJ3_checkIndex_8e157) (maxL := 3) (ret := (some .int)) (dk_dq rfl) rfl (Nat.le_of_ble_eq_true rfl) ?_
  intro p e s m args below meth c A hAe harg hx hb hr hml hts hown hlocks hin hP K hS hA1 hA ST hsz ls hl
  rw [← hAe]
  have F : CallFix p m c cJ3_checkIndex_8e157 3 s args (bw yJ3_checkIndex_8e157 cJ3_checkIndex_8e157 3 (some .int)) RJ3 := ⟨hx, hb, hml, hown, hts⟩
  have hl : lv_has ls 3 [(0, .int x), (1, .int y), (2, .ref q9)] := hl
  refine lv_iload_n hx hb dJ3_checkIndex_8e157_0 rfl (lv_at hl 0 rfl) ?_
  refine lv_if_lt (tgt := 9) hx hb dJ3_checkIndex_8e157_1 (dk_dq rfl) (fun c => absurd (dk_ltc (k := 0) (by decide +kernel) c) (by omega)) (fun _ => ?_)
  refine lv_iload_n hx hb dJ3_checkIndex_8e157_4 rfl (lv_at hl 0 rfl) ?_
  refine lv_iload_n hx hb dJ3_checkIndex_8e157_5 rfl (lv_at hl 1 rfl) ?_
  refine lv_icmp_lt (tgt := 16) hx hb dJ3_checkIndex_8e157_6 (dk_dq rfl) (fun _ => ?_) (fun c => absurd (dk_ltp (k := (y).toInt) rfl (by omega)) c)
  refine lv_iload_n hx hb dJ3_checkIndex_8e157_16 rfl (lv_at hl 0 rfl) ?_
  refine W.widen (k := 0) (n := 0) (Nat.le_of_ble_eq_true rfl) (Nat.le_of_ble_eq_true rfl) ?_
  exact dg_iret hx hb hr hlocks rfl hP hS ⟨rfl, trivial⟩ dJ3_checkIndex_8e157_17
set_option maxHeartbeats 4000000 in
theorem c_J0chk (l : Launch) (g : Nat → ClassId) (D : va_G) {sh : List dg_q} {rf : dg_R} (o : Nat) (S : dg_S) (x y : Int32) (h0 : 0 ≤ x.toInt) (h1 : x.toInt < y.toInt) (sz : Nat) : Met l yJ0_checkIndex_df160 (bw yJ0_checkIndex_df160 cJ0_checkIndex_df160 2 none) ({ frames := 2, cells := 0, slots := 0, locals := 54 } : Room) (dk_Pc g D (dg_w g sh o rf S) sz [.int x, .int y]) (va_Qv (fun S' => S' = S ∧ True) (dg_B g D sh o rf) (dg_A o sh.length sz)) 0 0 (dg_A o sh.length sz) := by
  refine dg_met (cc := cJ0_checkIndex_df160) (maxL := 2) (ret := none) (dk_dq rfl) rfl (Nat.le_of_ble_eq_true rfl) ?_
  intro p e s m args below meth c A hAe harg hx hb hr hml hts hown hlocks hin hP K hS hA1 hA ST hsz ls hl
  rw [← hAe]
  have F : CallFix p m c cJ0_checkIndex_df160 2 s args (bw yJ0_checkIndex_df160 cJ0_checkIndex_df160 2 none) RJ0 := ⟨hx, hb, hml, hown, hts⟩
  have hl : lv_has ls 2 [(0, .int x), (1, .int y)] := hl
  obtain ⟨-, hZc, ⟨r9, hZf, hr9⟩, -⟩ := id ST
  refine lv_iload_n hx hb dJ0_checkIndex_df160_0 rfl (lv_at hl 0 rfl) ?_
  refine lv_iload_n hx hb dJ0_checkIndex_df160_1 rfl (lv_at hl 1 rfl) ?_
  refine va_gets hx hb hZf hS hown (hts _ (bw_mem wB_155)) (fun _ h9 => h9) dJ0_checkIndex_df160_2 ?_
  rcases hr9 with rfl | ⟨q9, rfl⟩
  · refine dg_calli hS hA1 hA (va_runS (As := [.int x, .int y, .null]) (rest := []) F (c_J3n l g D o S x y h0 h1 s.heap.size) (va_cwS 3 hts (bw_S wB_157 wB_158 wB_159 wB_156) rfl rfl rfl (by decide +kernel) ⟨Nat.le_of_ble_eq_true rfl, Nat.le_of_ble_eq_true rfl⟩) (dg_preS K ST hP hS hA1 hA) rfl rfl hl.1 rfl (lv_room (Nat.le_of_ble_eq_true rfl)) dJ0_checkIndex_df160_5 ⟨Nat.le_of_ble_eq_true rfl, Nat.le_of_ble_eq_true rfl⟩) (fun z S_1 hw H locs hP hS => ?_)
    rw [hw.1] at hP
    refine lv_pop hx hb dJ0_checkIndex_df160_8 rfl ?_
    refine W.widen (k := 0) (n := 0) (Nat.le_of_ble_eq_true rfl) (Nat.le_of_ble_eq_true rfl) ?_
    exact dg_vret hx hb hr hlocks hP hS ⟨rfl, trivial⟩ dJ0_checkIndex_df160_9
  · refine dg_calli hS hA1 hA (va_runS (As := [.int x, .int y, .ref q9]) (rest := []) F (c_J3r l g D o S x y q9 h0 h1 s.heap.size) (va_cwS 3 hts (bw_S wB_157 wB_158 wB_159 wB_156) rfl rfl rfl (by decide +kernel) ⟨Nat.le_of_ble_eq_true rfl, Nat.le_of_ble_eq_true rfl⟩) (dg_preS K ST hP hS hA1 hA) rfl rfl hl.1 rfl (lv_room (Nat.le_of_ble_eq_true rfl)) dJ0_checkIndex_df160_5 ⟨Nat.le_of_ble_eq_true rfl, Nat.le_of_ble_eq_true rfl⟩) (fun z S_1 hw H locs hP hS => ?_)
    rw [hw.1] at hP
    refine lv_pop hx hb dJ0_checkIndex_df160_8 rfl ?_
    refine W.widen (k := 0) (n := 0) (Nat.le_of_ble_eq_true rfl) (Nat.le_of_ble_eq_true rfl) ?_
    exact dg_vret hx hb hr hlocks hP hS ⟨rfl, trivial⟩ dJ0_checkIndex_df160_9
set_option maxHeartbeats 4000000 in
theorem c_J1chr (l : Launch) (g : Nat → ClassId) (D : va_G) {sh : List dg_q} {rf : dg_R} (o : Nat) (S : dg_S) (a v : Nat) (i : Int32) (hi : 0 ≤ i.toInt ∧ i.toInt ≤ 161) (sz : Nat) : Met l yJ1_charAt_3b067 (bw yJ1_charAt_3b067 cJ1_charAt_3b067 2 (some .char)) ({ frames := 3, cells := 0, slots := 0, locals := 75 } : Room) (dk_Pcs g D (dg_w g sh o rf S) sz a v [.ref v, .int i]) (va_Qi (fun (r : Int32) S' => S' = S ∧ narrow .char (.int r) = .int r ∧ r = dk_wch i ∧ True) (dg_B g D sh o rf) (dg_A o sh.length sz)) 0 0 (dg_A o sh.length sz) := by
  refine dg_mets (cc := cJ1_charAt_3b067) (maxL := 2) (ret := (some .char)) (dk_dq rfl) rfl (Nat.le_of_ble_eq_true rfl) ?_
  intro p e s m args below meth c A hAe harg hx hb hr hml hts hown hlocks hin hP K hS hA1 hA ST hSt hsz ls hl
  rw [← hAe]
  have F : CallFix p m c cJ1_charAt_3b067 2 s args (bw yJ1_charAt_3b067 cJ1_charAt_3b067 2 (some .char)) RJ1 := ⟨hx, hb, hml, hown, hts⟩
  have hl : lv_has ls 2 [(0, .ref v), (1, .int i)] := hl
  have hT : va_T .byte v 162 (fun j => .int (dk_by.getD j 0)) A s s.heap := (hSt.1 0 Nat.zero_lt_one).2.2.2
  have h162 : (162 : Int32).toInt = 162 := by decide +kernel
  refine lv_iload_n hx hb dJ1_charAt_3b067_0 rfl (lv_at hl 1 rfl) ?_
  refine lv_aload_n hx hb dJ1_charAt_3b067_1 rfl (lv_at hl 0 rfl) ?_
  refine va_tlen hx hb hT hS (v := 162) (by decide +kernel) dJ1_charAt_3b067_2 ?_
  refine dg_callv hS hA1 hA (va_runS (As := [.int i, .int 162]) (rest := []) F (c_J0chk l g D o S i 162 hi.1 (by omega) s.heap.size) (va_cwS 2 hts (bw_S wB_161 wB_162 wB_163 wB_160) rfl rfl rfl (by decide +kernel) ⟨Nat.le_of_ble_eq_true rfl, Nat.le_of_ble_eq_true rfl⟩) (dg_preS K ST hP hS hA1 hA) rfl rfl hl.1 rfl (lv_room (Nat.le_of_ble_eq_true rfl)) dJ1_charAt_3b067_3 ⟨Nat.le_of_ble_eq_true rfl, Nat.le_of_ble_eq_true rfl⟩) (fun S_1 hw H locs hP hS => ?_)
  rw [hw.1] at hP
  refine lv_aload_n hx hb dJ1_charAt_3b067_6 rfl (lv_at hl 0 rfl) ?_
  refine lv_iload_n hx hb dJ1_charAt_3b067_7 rfl (lv_at hl 1 rfl) ?_
  refine va_tb hx hb hT hS (i := i) (dk_inv hi.1 (by omega)) (v := .int (dk_by.getD i.toNatClampNeg 0)) rfl dJ1_charAt_3b067_8 ?_
  refine lv_sipush (v := 255) hx hb dJ1_charAt_3b067_9 (by decide +kernel) ?_
  refine lv_iand hx hb dJ1_charAt_3b067_12 ?_
  refine lv_topi (fun z ez => ?_)
  refine lv_i2c hx hb dJ1_charAt_3b067_13 rfl ?_
  refine lv_topi (fun w ew => ?_)
  have hn := dk_nch ez ew
  refine W.widen (k := 0) (n := 0) (Nat.le_of_ble_eq_true rfl) (Nat.le_of_ble_eq_true rfl) ?_
  exact dg_iret hx hb hr hlocks hn hP hS ⟨rfl, hn, (by rw [ew, ez]; rfl), trivial⟩ dJ1_charAt_3b067_14
set_option maxHeartbeats 4000000 in
theorem c_J0lat (l : Launch) (g : Nat → ClassId) (D : va_G) {sh : List dg_q} {rf : dg_R} (o : Nat) (S : dg_S) (a v : Nat) (sz : Nat) : Met l yJ0_isLatin1_aae02 (bw yJ0_isLatin1_aae02 cJ0_isLatin1_aae02 1 (some .boolean)) ({ frames := 1, cells := 0, slots := 0, locals := 32 } : Room) (dk_Pcs g D (dg_w g sh o rf S) sz a v [.ref a]) (va_Qi (fun (r : Int32) S' => S' = S ∧ r = 1 ∧ True) (dg_B g D sh o rf) (dg_A o sh.length sz)) 0 0 (dg_A o sh.length sz) := by
  refine dg_mets (cc := cJ0_isLatin1_aae02) (maxL := 1) (ret := (some .boolean)) (dk_dq rfl) rfl (Nat.le_of_ble_eq_true rfl) ?_
  intro p e s m args below meth c A hAe harg hx hb hr hml hts hown hlocks hin hP K hS hA1 hA ST hSt hsz ls hl
  rw [← hAe]
  have F : CallFix p m c cJ0_isLatin1_aae02 1 s args (bw yJ0_isLatin1_aae02 cJ0_isLatin1_aae02 1 (some .boolean)) RJ0 := ⟨hx, hb, hml, hown, hts⟩
  have hl : lv_has ls 1 [(0, .ref a)] := hl
  obtain ⟨-, hZc, -⟩ := id ST
  have hC : va_OF "java/lang/String" "coder" "B" (.int 0) a A s s.heap := (hSt.1 0 Nat.zero_lt_one).2.1
  refine va_gets hx hb hZc hS hown (hts _ (bw_mem wB_164)) (fun _ h9 => h9) dJ0_isLatin1_aae02_0 ?_
  refine lv_if_eq (tgt := 17) hx hb dJ0_isLatin1_aae02_3 (dk_dq rfl) (fun c => absurd c (by decide +kernel)) (fun _ => ?_)
  refine lv_aload_n hx hb dJ0_isLatin1_aae02_6 rfl (lv_at hl 0 rfl) ?_
  refine vk_getf hx hb hC hS hown (hts _ (bw_mem wB_165)) (fun _ h9 => h9) dJ0_isLatin1_aae02_7 ?_
  refine lv_if_ne (tgt := 17) hx hb dJ0_isLatin1_aae02_10 (dk_dq rfl) (fun c => absurd rfl c) (fun _ => ?_)
  refine lv_iconst (v := 1) hx hb dJ0_isLatin1_aae02_13 (by decide +kernel) ?_
  refine lv_goto (tgt := 18) hx hb dJ0_isLatin1_aae02_14 (dk_dq rfl) ?_
  refine W.widen (k := 0) (n := 0) (Nat.le_of_ble_eq_true rfl) (Nat.le_of_ble_eq_true rfl) ?_
  exact dg_iret hx hb hr hlocks (by decide +kernel) hP hS ⟨rfl, rfl, trivial⟩ dJ0_isLatin1_aae02_18
set_option maxHeartbeats 4000000 in
theorem c_J0chr (l : Launch) (g : Nat → ClassId) (D : va_G) {sh : List dg_q} {rf : dg_R} (o : Nat) (S : dg_S) (a v : Nat) (i : Int32) (hi : 0 ≤ i.toInt ∧ i.toInt ≤ 161) (sz : Nat) : Met l yJ0_charAt_5068e (bw yJ0_charAt_5068e cJ0_charAt_5068e 2 (some .char)) ({ frames := 4, cells := 0, slots := 0, locals := 96 } : Room) (dk_Pcs g D (dg_w g sh o rf S) sz a v [.ref a, .int i]) (va_Qi (fun (r : Int32) S' => S' = S ∧ r = dk_wch i ∧ True) (dg_B g D sh o rf) (dg_A o sh.length sz)) 0 0 (dg_A o sh.length sz) := by
  refine dg_mets (cc := cJ0_charAt_5068e) (maxL := 2) (ret := (some .char)) (dk_dq rfl) rfl (Nat.le_of_ble_eq_true rfl) ?_
  intro p e s m args below meth c A hAe harg hx hb hr hml hts hown hlocks hin hP K hS hA1 hA ST hSt hsz ls hl
  rw [← hAe]
  have F : CallFix p m c cJ0_charAt_5068e 2 s args (bw yJ0_charAt_5068e cJ0_charAt_5068e 2 (some .char)) RJ0 := ⟨hx, hb, hml, hown, hts⟩
  have hl : lv_has ls 2 [(0, .ref a), (1, .int i)] := hl
  have hV : va_OF "java/lang/String" "value" "[B" (.ref v) a A s s.heap := (hSt.1 0 Nat.zero_lt_one).2.2.1
  refine lv_aload_n hx hb dJ0_charAt_5068e_0 rfl (lv_at hl 0 rfl) ?_
  refine dg_calli hS hA1 hA (va_runV (As := []) (rest := []) F (c_J0lat l g D o S a v s.heap.size) (cwV 0 hts (bw_V wB_166 wB_167 wB_168 wB_163 wB_169) rfl rfl rfl (by decide +kernel) ⟨Nat.le_of_ble_eq_true rfl, Nat.le_of_ble_eq_true rfl⟩) (dg_preVs K ST hSt hP hS hA1 hA) rfl rfl hl.1 rfl (lv_room (Nat.le_of_ble_eq_true rfl)) dJ0_charAt_5068e_1 ⟨Nat.le_of_ble_eq_true rfl, Nat.le_of_ble_eq_true rfl⟩) (fun x S_1 hw H locs hP hS => ?_)
  obtain ⟨hq1, hx1, -⟩ := hw
  rw [hq1] at hP
  subst hx1
  refine lv_if_eq (tgt := 16) hx hb dJ0_charAt_5068e_4 (dk_dq rfl) (fun c => absurd c (by decide +kernel)) (fun _ => ?_)
  refine lv_aload_n hx hb dJ0_charAt_5068e_7 rfl (lv_at hl 0 rfl) ?_
  refine vk_getf hx hb hV hS hown (hts _ (bw_mem wB_170)) (fun _ h9 => h9) dJ0_charAt_5068e_8 ?_
  refine lv_iload_n hx hb dJ0_charAt_5068e_11 rfl (lv_at hl 1 rfl) ?_
  refine dg_calli hS hA1 hA (va_runS (As := [.ref v, .int i]) (rest := []) F (c_J1chr l g D o S a v i hi H.size) (va_cwS 2 hts (bw_S wB_172 wB_173 wB_174 wB_171) rfl rfl rfl (by decide +kernel) ⟨Nat.le_of_ble_eq_true rfl, Nat.le_of_ble_eq_true rfl⟩) (dg_preSs K ST hSt hP hS hA1 hA) rfl rfl hl.1 rfl (lv_room (Nat.le_of_ble_eq_true rfl)) dJ0_charAt_5068e_12 ⟨Nat.le_of_ble_eq_true rfl, Nat.le_of_ble_eq_true rfl⟩) (fun z S_2 hw H locs hP hS => ?_)
  obtain ⟨hq2, hn, hwv, -⟩ := hw
  rw [hq2] at hP
  refine W.widen (k := 0) (n := 0) (Nat.le_of_ble_eq_true rfl) (Nat.le_of_ble_eq_true rfl) ?_
  exact dg_iret hx hb hr hlocks hn hP hS ⟨rfl, hwv, trivial⟩ dJ0_charAt_5068e_15
section DGST
variable {p : Program} {l : Launch} {e : Env} {R : Room} {s : State} {m : MethodId} {args : Array Value} {below : List Frame} {meth : Method} {c : Code} {H : Heap} {locs : List Loc} {cells slots : Nat} {Q : State → Prop}
variable {cc : ByteArray} {pc : Nat} {ls : Array Slot} {rest : List Value} {D : va_G} {A : Nat → Prop} {H0 : Heap} {g : Nat → ClassId} {sh : List dg_q} {o : Nat} {rf : dg_R} {S : dg_S}
theorem dg_charAt {maxL : Nat} {ret : Option FieldType} {y : MethodName} (F : CallFix p m c cc maxL s args (bw y cc maxL ret) RX9) (K : dk_K g D s) (ST : dk_ST A s s.heap) {a v : Nat} (hSt : vk_S 1 [162] [dk_by] (fun _ => a) (fun _ => v) A s s.heap) (hP : va_P D vwCl (dg_w g sh o rf S) H) (hS : va_S A s.heap H locs) (hA1 : ∀ i, i < sh.length → A (o + i)) (hA : ∀ q, s.heap.size ≤ q → A q) {i : Int32} (hi : 0 ≤ i.toInt ∧ i.toInt ≤ 161) (hl : ls.size = maxL) (hfr : 6 ≤ R.frames) (hlo : 300 ≤ R.locals) (hcs : cells ≤ R.cells ∧ slots ≤ R.slots) (hrest : (rest.map fun v => v.category).sum ≤ 8) (hdg : decode cc pc = .ok (.invokevirtual 67, 3))
    (kk : ∀ (r : Int32) (H1 : Heap) (locs1 : List Loc), r = dk_wch i → va_P D vwCl (dg_w g sh o rf S) H1 → va_S A s.heap H1 locs1 → W p l e R s m args below meth c H1 locs1 cells slots Q (F0 m (pc + 3) ls (.int r :: rest))) : W p l e R s m args below meth c H locs cells slots Q (F0 m pc ls (.int i :: .ref a :: rest)) := by
  have hts := F.2.2.2.2
  refine dg_calli (mc := 0) (ms := 0) hS hA1 hA (va_runV (As := [.int i]) (rest := rest) F (c_J0chr l g D o S a v i hi H.size) (cwV 1 hts (bw_V wB_175 wB_176 wB_177 wB_163 wB_178) rfl rfl rfl (by decide +kernel) ⟨by show 4 + 1 ≤ _; omega, by show 8 + (2 + 11) + 96 ≤ _; omega⟩) (dg_preVs K ST hSt hP hS hA1 hA) rfl rfl hl rfl (by show 2 * 0 + _ ≤ 8; omega) hdg ⟨hcs.1, hcs.2⟩) (fun x S_1 hw H1 locs1 hP1 hS1 => ?_)
  rw [hw.1] at hP1
  exact kk x H1 locs1 hw.2.1 hP1 hS1
end DGST
end
