/-! the reference's frames with the operators that wait and their pairs; the codes that are written -/
abbrev x_F : Type := List (List Int × Int)
/-- n of them from lo on, the last one first -/
def x_seg (ops : Nat → Int32) (lo : Nat) : Nat → List Int
  | 0 => []
  | n + 1 => (ops (lo + n)).toInt :: x_seg ops lo n
def x_L (pr bs ops : Nat → Int32) : Nat → Nat → x_F
  | 0, _ => []
  | d + 1, hi => (x_seg ops (bs d).toInt.toNat (hi - (bs d).toInt.toNat), (pr d).toInt) :: x_L pr bs ops d (bs d).toInt.toNat
def XSL (S : dg_S) : x_F := x_L (S.2.1 25) (S.2.1 26) (S.2.1 27) (fI S 42).toNatClampNeg (fI S 45).toNatClampNeg
/-- the pair, where it counts -/
def n_np (kn p : Int) : Int := if kn = 3 ∨ kn = 4 ∨ kn = 6 then p else 0
def n_Z : List m_F → x_F → List n_F
  | (kn, ph, bg, _) :: R, (l, p) :: X => (kn, ph, bg, l, n_np kn p) :: n_Z R X
  | _, _ => []
def NSv (S : dg_S) (k : Nat) (q : Bool) (out : List Int) : n_S := (0, n_Z (MSL S) (XSL S), (fI S 43).toNatClampNeg, k, q, out)
/-- the class's step of a code: its sort, its value -/
def d_2 (t v : Int) : Int := if t = 0 then v else d_st t
def q_am (S S1 : dg_S) (L : List Int) : Prop := ∃ ii a b : Int32, S.1 0 35 = .int ii ∧ S1.1 0 35 = .int ii ∧ S.1 0 34 = .int a ∧ S1.1 0 34 = .int b ∧ 0 ≤ ii.toInt ∧ 0 ≤ a.toInt ∧ b.toInt = a.toInt + L.length ∧ (∀ j : Nat, (j : Int) < 1600 * ii.toInt + a.toInt → S1.2.1 18 j = S.2.1 18 j ∧ S1.2.1 19 j = S.2.1 19 j) ∧ ∀ j : Nat, j < L.length → d_2 (S1.2.1 18 ((1600 * ii.toInt + a.toInt).toNat + j)).toInt (S1.2.1 19 ((1600 * ii.toInt + a.toInt).toNat + j)).toInt = L.getD j 0
section XSEG
variable {ops ops' pr pr' bs bs' : Nat → Int32} {lo n m : Nat}
theorem x_seg_congr : ∀ {n : Nat}, (∀ j, j < n → ops' (lo + j) = ops (lo + j)) → x_seg ops' lo n = x_seg ops lo n
  | 0, _ => rfl
  | n + 1, h => by
    show (ops' (lo + n)).toInt :: x_seg ops' lo n = (ops (lo + n)).toInt :: x_seg ops lo n
    rw [h n (Nat.lt_succ_self n), x_seg_congr (fun j hj => h j (Nat.lt_succ_of_lt hj))]
/-- the upper ones, then the lower ones -/
theorem x_seg_add : ∀ (n : Nat), x_seg ops lo (m + n) = x_seg ops (lo + m) n ++ x_seg ops lo m
  | 0 => rfl
  | n + 1 => by
    show (ops (lo + (m + n))).toInt :: x_seg ops lo (m + n) = (ops (lo + m + n)).toInt :: (x_seg ops (lo + m) n ++ x_seg ops lo m)
    rw [x_seg_add n, show lo + (m + n) = lo + m + n by omega]
theorem x_seg_mem : ∀ {n : Nat} {t : Int}, t ∈ x_seg ops lo n → ∃ j, j < n ∧ t = (ops (lo + j)).toInt
  | 0, t, h => by cases h
  | n + 1, t, h => by
    rcases List.mem_cons.mp h with h | h
    · exact ⟨n, Nat.lt_succ_self n, h⟩
    · obtain ⟨j, hj, e⟩ := x_seg_mem h
      exact ⟨j, by omega, e⟩
theorem x_L_congr : ∀ (d hi : Nat), c_ok bs d hi → (∀ j, j < d → pr' j = pr j ∧ bs' j = bs j) → (∀ j, j < hi → ops' j = ops j) → x_L pr' bs' ops' d hi = x_L pr bs ops d hi
  | 0, hi, _, _, _ => rfl
  | d + 1, hi, hk, h, ho => by
    obtain ⟨a, b⟩ := h d (Nat.lt_succ_self d)
    have h1 := hk.1
    show (x_seg ops' (bs' d).toInt.toNat (hi - (bs' d).toInt.toNat), (pr' d).toInt) :: x_L pr' bs' ops' d (bs' d).toInt.toNat = (x_seg ops (bs d).toInt.toNat (hi - (bs d).toInt.toNat), (pr d).toInt) :: x_L pr bs ops d (bs d).toInt.toNat
    rw [a, b, x_seg_congr (fun j hj => ho _ (by omega)), x_L_congr d (bs d).toInt.toNat hk.2 (fun j hj => h j (Nat.lt_succ_of_lt hj)) (fun j hj => ho j (Nat.lt_of_lt_of_le hj h1))]
end XSEG
/-- the top frame's operators and pair, those below -/
def XFM (l : List Int) (p : Int) (X : x_F) (S : dg_S) : Prop := XSL S = (l, p) :: X
section XF
variable {S S1 S2 : dg_S} {WF : List (Nat × Nat)} {WA : List Nat} {dp on om dp' om' fx v t lv : Int32} {kn ph p : Int} {bg : Bool} {nt o d : Nat} {R : List m_F} {l : List Int} {X : x_F}
theorem XFM.keep (h : XFM l p X S) (m : dg_sm shM WF WA S S1) (h1 : (0, 42) ∉ WF) (h3 : (0, 45) ∉ WF) (k5 : 25 ∉ WA) (k6 : 26 ∉ WA) (k7 : 27 ∉ WA) : XFM l p X S1 := by
  unfold XFM XSL at h ⊢
  rw [fI_sm m h1, fI_sm m h3, (m.2 25 _ sM_25 k5).1, (m.2 26 _ sM_26 k6).1, (m.2 27 _ sM_27 k7).1]
  exact h
theorem XSL_s (f1 : S.1 0 42 = .int dp) (f3 : S.1 0 45 = .int om) (hd : dp.toNatClampNeg = d + 1) : XSL S = (x_seg (S.2.1 27) (S.2.1 26 d).toInt.toNat (om.toNatClampNeg - (S.2.1 26 d).toInt.toNat), (S.2.1 25 d).toInt) :: x_L (S.2.1 25) (S.2.1 26) (S.2.1 27) d (S.2.1 26 d).toInt.toNat := by
  unfold XSL
  rw [fI_at f1, fI_at f3, hd]
  rfl
theorem XFM.inv (h : XFM l p X S) (f1 : S.1 0 42 = .int dp) (f3 : S.1 0 45 = .int om) (hd : dp.toNatClampNeg = d + 1) : l = x_seg (S.2.1 27) (S.2.1 26 d).toInt.toNat (om.toNatClampNeg - (S.2.1 26 d).toInt.toNat) ∧ p = (S.2.1 25 d).toInt ∧ X = x_L (S.2.1 25) (S.2.1 26) (S.2.1 27) d (S.2.1 26 d).toInt.toNat := by
  unfold XFM at h
  rw [XSL_s f1 f3 hd] at h
  injection h with h1 h2
  injection h1 with h3 h4
  exact ⟨h3.symm, h4.symm, h2.symm⟩
theorem XFM.mk (f1 : S.1 0 42 = .int dp) (f3 : S.1 0 45 = .int om) (hd : dp.toNatClampNeg = d + 1) (e1 : x_seg (S.2.1 27) (S.2.1 26 d).toInt.toNat (om.toNatClampNeg - (S.2.1 26 d).toInt.toNat) = l) (e2 : (S.2.1 25 d).toInt = p) (e3 : x_L (S.2.1 25) (S.2.1 26) (S.2.1 27) d (S.2.1 26 d).toInt.toNat = X) : XFM l p X S := by
  unfold XFM
  rw [XSL_s f1 f3 hd, e1, e2, e3]
theorem XFM.start (T : TFM kn ph bg nt R o S) (f1 : S.1 0 42 = .int dp) (f2 : S.1 0 43 = .int on) (f3 : S.1 0 45 = .int om) : ∃ (l : List Int) (p : Int) (X : x_F), XFM l p X S := by
  obtain ⟨d, hd, -⟩ := T.inv f1 f2 f3
  exact ⟨_, _, _, XFM.mk f1 f3 hd rfl rfl rfl⟩
theorem XFM.hb (h : XFM l p X S) (T : TFM kn ph bg nt R o S) (f1 : S.1 0 42 = .int dp) (f2 : S.1 0 43 = .int on) (f3 : S.1 0 45 = .int om) (h0 : 0 ≤ om.toInt) (m : dg_sm shM [(0, 45)] [27] S S1) (hb : HBM S S1 t) : XFM (t.toInt :: l) p X S1 := by
  obtain ⟨g27, om', g3, hom⟩ := hb om f3
  obtain ⟨d, hd, a1, a2, a3, a4, a5, a6, a7, a8⟩ := T.inv f1 f2 f3
  obtain ⟨e1, e2, e3⟩ := h.inv f1 f3 hd
  have eo : om'.toNatClampNeg = om.toNatClampNeg + 1 := by have e1 := dk_clN om; have e2 := dk_clN om'; omega
  have g26 := (m.2 26 _ sM_26 (by decide)).1
  have g25 := (m.2 25 _ sM_25 (by decide)).1
  refine XFM.mk (by rw [m.1 0 42 _ sM_0 (by decide)]; exact f1) g3 hd ?_ (by rw [g25]; exact e2.symm) ?_
  · rw [g26, g27, eo, show om.toNatClampNeg + 1 - (S.2.1 26 d).toInt.toNat = (om.toNatClampNeg - (S.2.1 26 d).toInt.toNat) + 1 by omega]
    show (upd (S.2.1 27) om.toNatClampNeg t _).toInt :: x_seg _ _ _ = _
    rw [show (S.2.1 26 d).toInt.toNat + (om.toNatClampNeg - (S.2.1 26 d).toInt.toNat) = om.toNatClampNeg by omega, dk_upd_s, x_seg_congr (ops := S.2.1 27) (fun j hj => dk_upd_o (by omega)), ← e1]
  · rw [g25, g26, g27, e3]
    exact x_L_congr d _ a8 (fun j hj => ⟨rfl, rfl⟩) (fun j hj => dk_upd_o (by omega))
/-- a frame more -/
theorem XFM.push (h : XFM l p X S) (T : TFM kn ph bg nt R o S) (f1 : S.1 0 42 = .int dp) (f2 : S.1 0 43 = .int on) (f3 : S.1 0 45 = .int om) (hd0 : 0 ≤ dp.toInt) (m : dg_sm shM WF WA S S1) (h45 : (0, 45) ∉ WF) (k5 : 25 ∉ WA) (k7 : 27 ∉ WA) (hp : PUM S S1 t) : ∃ q : Int, XFM [] q ((l, p) :: X) S1 := by
  obtain ⟨g22, g23, g24, g26, dp', g1, hdp⟩ := hp dp om f1 f3
  have hc := T.2.2
  rw [fI_at f1, fI_at f3] at hc
  have hx := h
  unfold XFM XSL at hx
  rw [fI_at f1, fI_at f3] at hx
  have e1 := dk_clN dp
  have e2 := dk_clN dp'
  have g27 := (m.2 27 _ sM_27 k7).1
  have g25 := (m.2 25 _ sM_25 k5).1
  have eb : (S1.2.1 26 dp.toNatClampNeg).toInt.toNat = om.toNatClampNeg := by rw [g26, dk_upd_s]; rfl
  refine ⟨_, XFM.mk (d := dp.toNatClampNeg) g1 (by rw [m.1 0 45 _ sM_0 h45]; exact f3) (by omega) ?_ rfl ?_⟩
  · rw [eb, Nat.sub_self]
    rfl
  · rw [eb, ← hx]
    exact x_L_congr _ _ hc (fun j hj => ⟨by rw [g25], by rw [g26, dk_upd_o (by omega)]⟩) (fun j _ => by rw [g27])
/-- the first frame of a rule -/
theorem XFM.first (f1 : S.1 0 42 = .int dp) (f3 : S.1 0 45 = .int om) (hd : dp.toInt = 0) (m : dg_sm shM WF WA S S1) (h45 : (0, 45) ∉ WF) (hp : PUM S S1 t) : ∃ q : Int, XFM [] q [] S1 := by
  obtain ⟨g22, g23, g24, g26, dp', g1, hdp⟩ := hp dp om f1 f3
  have e1 := dk_clN dp
  have e2 := dk_clN dp'
  have ed : dp.toNatClampNeg = 0 := by omega
  rw [ed] at g26
  have eb : (S1.2.1 26 0).toInt.toNat = om.toNatClampNeg := by rw [g26, dk_upd_s]; rfl
  refine ⟨_, XFM.mk (d := 0) g1 (by rw [m.1 0 45 _ sM_0 h45]; exact f3) (by omega) ?_ rfl rfl⟩
  rw [eb, Nat.sub_self]
  rfl
/-- its pair -/
theorem XFM.pr (h : XFM l p X S) (T : TFM kn ph bg nt R o S) (f1 : S.1 0 42 = .int dp) (f2 : S.1 0 43 = .int on) (f3 : S.1 0 45 = .int om) (hf : fx.toInt = dp.toInt - 1) (e : S1 = dg_uf S 25 (upd (S.2.1 25) fx.toNatClampNeg v)) : XFM l v.toInt X S1 := by
  obtain ⟨d, hd, a1, a2, a3, a4, a5, a6, a7, a8⟩ := T.inv f1 f2 f3
  obtain ⟨e1, e2, e3⟩ := h.inv f1 f3 hd
  have c1 := dk_clN dp
  have c2 := dk_clN fx
  have ef : fx.toNatClampNeg = d := by omega
  rw [ef] at e
  refine XFM.mk (by rw [dg_uf_F e]; exact f1) (by rw [dg_uf_F e]; exact f3) hd (by rw [dg_uf_ne (a := 26) e (by decide), dg_uf_ne (a := 27) e (by decide)]; exact e1.symm) (by rw [dg_uf_at e, dk_upd_s]) ?_
  rw [dg_uf_ne (a := 26) e (by decide), dg_uf_ne (a := 27) e (by decide), e3]
  exact x_L_congr d _ a8 (fun j hj => ⟨by rw [dg_uf_at e, dk_upd_o (by omega)], rfl⟩) (fun _ _ => rfl)
/-- what joins() pops is written -/
def JXM (S S1 : dg_S) : Prop := ∀ om : Int32, S.1 0 45 = .int om → ∃ om' : Int32, S1.1 0 45 = .int om' ∧ om'.toNatClampNeg ≤ om.toNatClampNeg ∧ q_am S S1 ((x_seg (S.2.1 27) om'.toNatClampNeg (om.toNatClampNeg - om'.toNatClampNeg)).map d_st)
theorem XFM.join (h : XFM l p X S) (T : TFM kn ph bg nt R o S) (f1 : S.1 0 42 = .int dp) (f2 : S.1 0 43 = .int on) (f3 : S.1 0 45 = .int om) (J : JNM S S1 lv) (Q : JXM S S1) (top : TOPM S1 lv) (m : dg_sm shM WF WA S S1) (h42 : (0, 42) ∉ WF) (k5 : 25 ∉ WA) (k6 : 26 ∉ WA) (k7 : 27 ∉ WA) : XFM (n_lo lv.toInt l) p X S1 ∧ q_am S S1 ((n_hi lv.toInt l).map d_st) := by
  obtain ⟨d, hd, a1, a2, a3, a4, a5, a6, a7, a8⟩ := T.inv f1 f2 f3
  obtain ⟨e1, e2, e3⟩ := h.inv f1 f3 hd
  obtain ⟨on', om', c1, c2, c3, c4, c5, c6⟩ := J dp on om f1 f2 f3
  obtain ⟨om2, q1, q2, q3⟩ := Q om f3
  cases c2.symm.trans q1
  have g42 : S1.1 0 42 = .int dp := by rw [m.1 0 42 _ sM_0 h42]; exact f1
  have g25 := (m.2 25 _ sM_25 k5).1
  have g26 := (m.2 26 _ sM_26 k6).1
  have g27 := (m.2 27 _ sM_27 k7).1
  have top := top dp om' g42 c2
  rw [hd, Nat.add_sub_cancel] at c3 top
  rw [g26, g27] at top
  have hs : l = x_seg (S.2.1 27) om'.toNatClampNeg (om.toNatClampNeg - om'.toNatClampNeg) ++ x_seg (S.2.1 27) (S.2.1 26 d).toInt.toNat (om'.toNatClampNeg - (S.2.1 26 d).toInt.toNat) := by
    have := x_seg_add (ops := S.2.1 27) (lo := (S.2.1 26 d).toInt.toNat) (m := om'.toNatClampNeg - (S.2.1 26 d).toInt.toNat) (om.toNatClampNeg - om'.toNatClampNeg)
    rw [show (S.2.1 26 d).toInt.toNat + (om'.toNatClampNeg - (S.2.1 26 d).toInt.toNat) = om'.toNatClampNeg by omega, show om'.toNatClampNeg - (S.2.1 26 d).toInt.toNat + (om.toNatClampNeg - om'.toNatClampNeg) = om.toNatClampNeg - (S.2.1 26 d).toInt.toNat by omega] at this
    rw [e1, this]
  have hal : n_AL lv.toInt (x_seg (S.2.1 27) om'.toNatClampNeg (om.toNatClampNeg - om'.toNatClampNeg)) := by
    intro t ht
    obtain ⟨j, hj, e⟩ := x_seg_mem ht
    rw [e]
    exact c6 _ (by omega) (by omega)
  have hhd : n_HD lv.toInt (x_seg (S.2.1 27) (S.2.1 26 d).toInt.toNat (om'.toNatClampNeg - (S.2.1 26 d).toInt.toNat)) := by
    intro t r e
    cases hn : om'.toNatClampNeg - (S.2.1 26 d).toInt.toNat with
    | zero =>
      rw [hn] at e
      cases e
    | succ n =>
      rw [hn] at e
      injection e with e _
      rcases top with z | z
      · omega
      · rw [← e, show (S.2.1 26 d).toInt.toNat + n = om'.toNatClampNeg - 1 by omega]
        exact z
  obtain ⟨s1, s2⟩ := n_split hal hhd
  rw [← hs] at s1 s2
  rw [s1, s2]
  exact ⟨XFM.mk g42 c2 hd (by rw [g26, g27]) (by rw [g25]; exact e2.symm) (by rw [g25, g26, g27]; exact e3.symm), q3⟩
theorem XFM.pop (h : XFM l p X S) (T : TFM kn ph bg nt R o S) (f1 : S.1 0 42 = .int dp) (f2 : S.1 0 43 = .int on) (f3 : S.1 0 45 = .int om) (hl : l = []) (e : S1 = dg_uF S 0 42 (.int dp')) (hdp : dp'.toInt = dp.toInt - 1) (hR : R ≠ []) : ∃ (l' : List Int) (p' : Int) (X' : x_F), X = (l', p') :: X' ∧ XFM l' p' X' S1 := by
  obtain ⟨d, hd, a1, a2, a3, a4, a5, a6, a7, a8⟩ := T.inv f1 f2 f3
  obtain ⟨e1, e2, e3⟩ := h.inv f1 f3 hd
  have c1 := dk_clN dp
  have c2 := dk_clN dp'
  cases d with
  | zero => exact absurd a5 hR
  | succ d1 =>
    have eb : om.toNatClampNeg = (S.2.1 26 (d1 + 1)).toInt.toNat := by
      cases hn : om.toNatClampNeg - (S.2.1 26 (d1 + 1)).toInt.toNat with
      | zero => omega
      | succ n =>
        rw [hn, hl] at e1
        cases e1
    have hd1 : dp'.toNatClampNeg = d1 + 1 := by omega
    have g1 : S1.1 0 42 = .int dp' := dg_uF_at e
    have g3 : S1.1 0 45 = .int om := by rw [dg_uF_ne e (fun z => absurd z.2 (by decide))]; exact f3
    exact ⟨_, _, _, e3, XFM.mk g1 g3 hd1 (by rw [dg_uF_f e, dg_uF_f e, eb]) (by rw [dg_uF_f e]) (by rw [dg_uF_f e, dg_uF_f e, dg_uF_f e])⟩
end XF
section QAM
variable {S S1 S2 S3 : dg_S} {L L1 L2 L' : List Int} {WF : List (Nat × Nat)} {WA : List Nat} {ii a b t v : Int32}
theorem q_am.z (f5 : S.1 0 35 = .int ii) (f4 : S.1 0 34 = .int a) (h5 : 0 ≤ ii.toInt) (h4 : 0 ≤ a.toInt) : q_am S S [] := ⟨ii, a, a, f5, f5, f4, f4, h5, h4, by show a.toInt = a.toInt + ((0 : Nat) : Int); omega, fun j hj => ⟨rfl, rfl⟩, fun j hj => absurd hj (Nat.not_lt_zero j)⟩
/-- what add() writes -/
def A5M (S S1 : dg_S) (t v : Int32) : Prop := ∀ ii a : Int32, S.1 0 35 = .int ii → S.1 0 34 = .int a → ∃ b : Int32, S1.1 0 34 = .int b ∧ b.toInt = a.toInt + 1 ∧ S1.1 0 35 = .int ii ∧ S1.2.1 18 = upd (S.2.1 18) (1600 * ii.toInt + a.toInt).toNat t ∧ S1.2.1 19 = upd (S.2.1 19) (1600 * ii.toInt + a.toInt).toNat v
theorem A5M.mk {x y b : Int32} (f5 : S.1 0 35 = .int ii) (f4 : S.1 0 34 = .int a) (hx : x.toInt = 1600 * ii.toInt + a.toInt) (hy : y.toInt = 1600 * ii.toInt + a.toInt) (e1 : S1 = dg_uf S 18 (upd (S.2.1 18) x.toNatClampNeg t)) (e2 : S2 = dg_uf S1 19 (upd (S1.2.1 19) y.toNatClampNeg v)) (e3 : S3 = dg_uF S2 0 34 (.int b)) (hb : b.toInt = a.toInt + 1) : A5M S S3 t v := by
  intro ii' a' q5 q4
  cases f5.symm.trans q5
  cases f4.symm.trans q4
  have c1 := dk_clN x
  have c2 := dk_clN y
  have ex : x.toNatClampNeg = (1600 * ii.toInt + a.toInt).toNat := by omega
  have ey : y.toNatClampNeg = (1600 * ii.toInt + a.toInt).toNat := by omega
  refine ⟨b, dg_uF_at e3, hb, ?_, ?_, ?_⟩
  · rw [dg_uF_ne e3 (fun z => absurd z.2 (by decide)), dg_uf_F e2, dg_uf_F e1]
    exact f5
  · rw [dg_uF_f e3, dg_uf_ne e2 (by decide), dg_uf_at e1, ex]
  · rw [dg_uF_f e3, dg_uf_at e2, dg_uf_ne e1 (by decide), ey]
theorem q_am.tr (h1 : q_am S S1 L1) (h2 : q_am S1 S2 L2) : q_am S S2 (L1 ++ L2) := by
  obtain ⟨ii, a, b, f5, f5', f4, f4', h5, h4, n1, k1, w1⟩ := h1
  obtain ⟨jj, b', c, g5, g5', g4, g4', -, -, n2, k2, w2⟩ := h2
  cases f5'.symm.trans g5
  cases f4'.symm.trans g4
  refine ⟨ii, a, c, f5, g5', f4, g4', h5, h4, by rw [List.length_append]; omega, fun j hj => ?_, fun j hj => ?_⟩
  · obtain ⟨x, y⟩ := k2 j (by omega)
    obtain ⟨x', y'⟩ := k1 j hj
    exact ⟨x.trans x', y.trans y'⟩
  · by_cases q : j < L1.length
    · obtain ⟨x, y⟩ := k2 ((1600 * ii.toInt + a.toInt).toNat + j) (by omega)
      rw [x, y, w1 j q, List.getD_eq_getElem?_getD, List.getD_eq_getElem?_getD, List.getElem?_append_left q]
    · rw [List.length_append] at hj
      have h := w2 (j - L1.length) (by omega)
      rw [show (1600 * ii.toInt + b.toInt).toNat + (j - L1.length) = (1600 * ii.toInt + a.toInt).toNat + j by omega] at h
      rw [h, List.getD_eq_getElem?_getD, List.getD_eq_getElem?_getD, List.getElem?_append_right (by omega)]
theorem q_am.keep (h : q_am S S1 L) (m : dg_sm shM WF WA S1 S2) (h4 : (0, 34) ∉ WF) (h5 : (0, 35) ∉ WF) (k8 : 18 ∉ WA) (k9 : 19 ∉ WA) : q_am S S2 L := by
  obtain ⟨ii, a, b, f5, f5', f4, f4', p5, p4, n1, k1, w1⟩ := h
  have g8 := (m.2 18 _ sM_18 k8).1
  have g9 := (m.2 19 _ sM_19 k9).1
  exact ⟨ii, a, b, f5, (m.1 0 35 _ sM_0 h5).trans f5', f4, (m.1 0 34 _ sM_0 h4).trans f4', p5, p4, n1, fun j hj => by rw [g8, g9]; exact k1 j hj, fun j hj => by rw [g8, g9]; exact w1 j hj⟩
theorem q_am.fst (m : dg_sm shM WF WA S S1) (h4 : (0, 34) ∉ WF) (h5 : (0, 35) ∉ WF) (k8 : 18 ∉ WA) (k9 : 19 ∉ WA) (h : q_am S1 S2 L) : q_am S S2 L := by
  obtain ⟨ii, a, b, f5, f5', f4, f4', p5, p4, n1, k1, w1⟩ := h
  have g8 := (m.2 18 _ sM_18 k8).1
  have g9 := (m.2 19 _ sM_19 k9).1
  exact ⟨ii, a, b, (m.1 0 35 _ sM_0 h5).symm.trans f5, f5', (m.1 0 34 _ sM_0 h4).symm.trans f4, f4', p5, p4, n1, fun j hj => by rw [← g8, ← g9]; exact k1 j hj, w1⟩
theorem q_am.to (h : q_am S S1 L) (e : L' = L) : q_am S S1 L' := by
  rw [e]
  exact h
theorem A5M.q (h : A5M S S1 t v) (f5 : S.1 0 35 = .int ii) (f4 : S.1 0 34 = .int a) (h5 : 0 ≤ ii.toInt) (h4 : 0 ≤ a.toInt) : q_am S S1 [d_2 t.toInt v.toInt] := by
  obtain ⟨b, g4, hb, g5, r8, r9⟩ := h ii a f5 f4
  refine ⟨ii, a, b, f5, g5, f4, g4, h5, h4, hb, fun j hj => ?_, fun j hj => ?_⟩
  · rw [r8, r9, dk_upd_o (by omega), dk_upd_o (by omega)]
    exact ⟨rfl, rfl⟩
  · have hj : j < 1 := hj
    have e : j = 0 := by omega
    subst e
    rw [r8, r9, Nat.add_zero, dk_upd_s, dk_upd_s]
    rfl
theorem JXM.z (f4 : S.1 0 34 = .int a) (f5 : S.1 0 35 = .int ii) (h5 : 0 ≤ ii.toInt) (h4 : 0 ≤ a.toInt) : JXM S S := fun om f => ⟨om, f, Nat.le_refl _, by rw [Nat.sub_self]; exact q_am.z f5 f4 h5 h4⟩
/-- one more is popped -/
theorem JXM.st {om om' : Int32} (h : JXM S S1) (f : S1.1 0 45 = .int om) (h1 : q_am S1 S2 [d_st (S.2.1 27 om'.toNatClampNeg).toInt]) (g : S2.1 0 45 = .int om') (ho : om'.toInt = om.toInt - 1) (h0 : 0 ≤ om'.toInt) : JXM S S2 := by
  intro om0 f0
  obtain ⟨x, fx, hx, q⟩ := h om0 f0
  cases f.symm.trans fx
  have c1 := dk_clN om
  have c2 := dk_clN om'
  have c0 := dk_clN om0
  refine ⟨om', g, by omega, (q.tr h1).to ?_⟩
  have e := x_seg_add (ops := S.2.1 27) (lo := om'.toNatClampNeg) (m := 1) (om0.toNatClampNeg - om.toNatClampNeg)
  rw [show om0.toNatClampNeg - om'.toNatClampNeg = 1 + (om0.toNatClampNeg - om.toNatClampNeg) by omega, e, show om'.toNatClampNeg + 1 = om.toNatClampNeg by omega, List.map_append]
  rfl
end QAM
section QAM2
variable {S S1 S2 : dg_S} {L : List Int} {kn ph p : Int} {bg : Bool} {nt o lv : Nat} {R : List m_F} {l : List Int} {X : x_F} {dp on om fx x : Int32}
theorem q_am.mv (h : q_am S S1 L) (e4 : S2.1 0 34 = S1.1 0 34) (e5 : S2.1 0 35 = S1.1 0 35) (e8 : S2.2.1 18 = S1.2.1 18) (e9 : S2.2.1 19 = S1.2.1 19) : q_am S S2 L := by
  obtain ⟨ii, a, b, f5, f5', f4, f4', p5, p4, n1, k1, w1⟩ := h
  exact ⟨ii, a, b, f5, e5.trans f5', f4, e4.trans f4', p5, p4, n1, fun j hj => by rw [e8, e9]; exact k1 j hj, fun j hj => by rw [e8, e9]; exact w1 j hj⟩
theorem q_am.fs (h : q_am S1 S2 L) (e4 : S1.1 0 34 = S.1 0 34) (e5 : S1.1 0 35 = S.1 0 35) (e8 : S1.2.1 18 = S.2.1 18) (e9 : S1.2.1 19 = S.2.1 19) : q_am S S2 L := by
  obtain ⟨ii, a, b, f5, f5', f4, f4', p5, p4, n1, k1, w1⟩ := h
  exact ⟨ii, a, b, e5.symm.trans f5, f5', e4.symm.trans f4, f4', p5, p4, n1, fun j hj => by rw [← e8, ← e9]; exact k1 j hj, w1⟩
theorem d_2_0 {t : Int} : d_2 t 0 = d_st t := by
  unfold d_2
  by_cases h : t = 0
  · rw [if_pos h, h]
    decide
  · rw [if_neg h]
theorem x_seg_cn {ops : Nat → Int32} {lo : Nat} : ∀ {n : Nat}, n_cn (x_seg ops lo n) = c_n ops lo (lo + n)
  | 0 => (c_n_nil (ops := ops) (lo := lo)).symm
  | n + 1 => by
    have ih := x_seg_cn (ops := ops) (lo := lo) (n := n)
    have mn := dk_cnt_mono (f := ops) (k := 43) (show lo ≤ lo + n by omega)
    show (if (ops (lo + n)).toInt = 43 then 1 else 0) + n_cn (x_seg ops lo n) = c_n ops lo (lo + n + 1)
    rw [ih]
    unfold c_n
    rcases dk_cnt_s ops 43 (lo + n) with ⟨a, b⟩ | ⟨a, b⟩
    · rw [if_pos a, b]
      omega
    · rw [if_neg a, b]
      omega
/-- how many NOTs: both told alike -/
theorem XFM.cn (h : XFM l p X S) (T : TFM kn ph bg nt R o S) (f1 : S.1 0 42 = .int dp) (f2 : S.1 0 43 = .int on) (f3 : S.1 0 45 = .int om) : n_cn l = nt := by
  obtain ⟨d, hd, a1, a2, a3, a4, a5, a6, a7, a8⟩ := T.inv f1 f2 f3
  obtain ⟨e1, e2, e3⟩ := h.inv f1 f3 hd
  rw [e1, x_seg_cn, a4, show (S.2.1 26 d).toInt.toNat + (om.toNatClampNeg - (S.2.1 26 d).toInt.toNat) = om.toNatClampNeg by omega]
theorem n_cn_hi {lv : Int} (h : n_cn l = nt) (h2 : n_cn (n_lo lv l) = 0) : n_cn (n_hi lv l) = nt := by
  have e : n_hi lv l ++ n_lo lv l = l := List.takeWhile_append_dropWhile
  have := n_cn_app (n_hi lv l) (n_lo lv l)
  rw [e] at this
  omega
/-- the pair as it is read -/
theorem XFM.pv (h : XFM l p X S) (T : TFM kn ph bg nt R o S) (f1 : S.1 0 42 = .int dp) (f2 : S.1 0 43 = .int on) (f3 : S.1 0 45 = .int om) (hf : fx.toInt = dp.toInt - 1) (e : S.2.1 25 fx.toNatClampNeg = x) : p = x.toInt := by
  obtain ⟨d, hd, a1, a2, a3, a4, a5, a6, a7, a8⟩ := T.inv f1 f2 f3
  obtain ⟨e1, e2, e3⟩ := h.inv f1 f3 hd
  have c1 := dk_clN dp
  have c2 := dk_clN fx
  rw [e2, ← e, show fx.toNatClampNeg = d by omega]
end QAM2
