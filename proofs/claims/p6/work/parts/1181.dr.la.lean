/-! the law: one relation of both states; what stays -/
def LT (SX SM : dg_S) : Prop := ∃ (n : Nat) (B : Nat → Int), cx_tp n B SX ∧ mx_tp n B SM
def LR (SX SM : dg_S) : Prop := ∀ k, k < 6 → SX.2.1 184 k = SM.2.1 28 k
def LI (SX SM : dg_S) : Prop := ∃ n : Nat, (zI SX 182 1).toInt = n ∧ (zI SM 0 76).toInt = n ∧ n ≤ 200 ∧ ∀ i, i < n → SX.2.1 183 i = SM.2.1 50 i
def LG (oX gD gE : Nat) (S : dg_S) : Prop := (rX gD ∧ rX gE ∧ gD ≠ gE) ∧ S.1 0 6 = .ref (oX + gD) ∧ S.1 0 7 = .ref (oX + gE)
/-- a mine has been told -/
def LSy (oX g : Nat) (G : aR) (K : Nat → List Int) (A : aR) (L : s_L) (U : s_U) (x : Int) (F : s_F) (SX SM : dg_S) : Prop := (s_ok G K A U ∧ (0 ≤ x ∧ x < 2147483648) ∧ s_fk G F) ∧ (RX oX g G K A L U x SX ∧ RM G K A L U x SM) ∧ (cx_fe F SX ∧ mx_fe F SM) ∧ cx_cs G K A SX ∧ cx_cc G K A SX ∧ cx_ct G K A F SX
/-- none has -/
def LSn (oX g : Nat) (x : Int) (SX SM : dg_S) : Prop := (0 ≤ x ∧ x < 2147483648) ∧ (cx_0 oX g x SX ∧ mx_0 x SM) ∧ zI SX 229 5 = zI SM 0 69
def LSs (oX : Nat) (SX SM : dg_S) : Prop := (∃ (g : Nat) (G : aR) (K : Nat → List Int) (A : aR) (L : s_L) (U : s_U) (x : Int) (F : s_F), LSy oX g G K A L U x F SX SM) ∨ ∃ (g : Nat) (x : Int), LSn oX g x SX SM
def LW (oX gD gE : Nat) (SX SM : dg_S) : Prop := LT SX SM ∧ LR SX SM ∧ LI SX SM ∧ LG oX gD gE SX ∧ LSs oX SX SM
/-- refused -/
def r_X (k : Nat) (S : dg_S) : dg_S := dg_uf S 184 (upd (S.2.1 184) k (S.2.1 184 k + (1 : Int32)))
def r_M (k : Nat) (S : dg_S) : dg_S := dg_uf S 28 (upd (S.2.1 28) k (S.2.1 28 k + (1 : Int32)))
abbrev ckB (WF : List (Nat × Nat)) (WA : List Nat) (WF' : List (Nat × Nat)) (WA' : List Nat) : Prop := ((1, 1) ∉ WF ∧ (16, 1) ∉ WF ∧ (0, 6) ∉ WF ∧ (0, 7) ∉ WF) ∧ (2 ∉ WA ∧ 17 ∉ WA) ∧ ((0, 1) ∉ WF' ∧ (0, 76) ∉ WF') ∧ 1 ∉ WA' ∧ 50 ∉ WA'
abbrev ckR (WA WA' : List Nat) : Prop := 18 ∉ WA ∧ 28 ∉ WA'
abbrev ckS (WF : List (Nat × Nat)) : Prop := WF.all (fun p => decide (p.1 ≠ 43 ∧ p.1 ≠ 44)) = true
abbrev ckF (WF : List (Nat × Nat)) (WA : List Nat) (WF' : List (Nat × Nat)) (WA' : List Nat) : Prop := ((44, 5) ∉ WF ∧ 45 ∉ WA) ∧ (0, 69) ∉ WF' ∧ 45 ∉ WA' ∧ 46 ∉ WA' ∧ 47 ∉ WA'
section LA
variable {o oX oM g gD gE n k i : Nat} {sh : List dg_q} {WF WF' : List (Nat × Nat)} {WA WA' : List Nat} {S S0 S1 S2 SX SM : dg_S} {G A : aR} {K : Nat → List Int} {L : s_L} {U : s_U} {F : s_F} {x : Int} {a a1 : Int32} {B : Nat → Int}
theorem sFI (m : dg_sm sh WF WA S S1) {c j : Nat} {q : dg_q} (h : sh[c]? = some q) (z : (q.2.2.2, j) ∉ WF) : zI S1 c j = zI S c j := by
  unfold zI
  rw [m.1 c j q h z]
theorem sFA (m : dg_sm sh WF WA S S1) {c : Nat} {q : dg_q} (h : sh[c]? = some q) (z : q.2.2.2 ∉ WA) : S1.2.1 c = S.2.1 c := (m.2 c q h z).1
theorem aX_0 : shX[0]? = some (0, 11, 13, 0) := by decide +kernel
theorem aX_1 : shX[1]? = some (0, 8, 2, 1) := by decide +kernel
theorem aX_2 : shX[2]? = some (1, 0, 1600, 2) := by decide +kernel
theorem aX_182 : shX[182]? = some (0, 4, 6, 16) := by decide +kernel
theorem aX_183 : shX[183]? = some (1, 0, 124, 17) := by decide +kernel
theorem aX_184 : shX[184]? = some (1, 0, 6, 18) := by decide +kernel
theorem aX_221 : shX[221]? = some (0, 1, 9, 43) := by decide +kernel
theorem aX_229 : shX[229]? = some (0, 0, 9, 44) := by decide +kernel
theorem aX_230 : shX[230]? = some (1, 0, 64, 45) := by decide +kernel
theorem aM_0 : shM[0]? = some (0, 12, 77, 0) := by decide +kernel
theorem aM_1 : shM[1]? = some (1, 0, 1800, 1) := by decide +kernel
theorem aM_28 : shM[28]? = some (1, 0, 6, 28) := by decide +kernel
theorem aM_45 : shM[45]? = some (1, 0, 16, 45) := by decide +kernel
theorem aM_46 : shM[46]? = some (1, 0, 16, 46) := by decide +kernel
theorem aM_47 : shM[47]? = some (1, 0, 16, 47) := by decide +kernel
theorem aM_50 : shM[50]? = some (1, 0, 150, 50) := by decide +kernel
theorem LT.eq (h : LT SX SM) (e1 : zI S1 1 1 = zI SX 1 1) (e2 : S1.2.1 2 = SX.2.1 2) (e3 : zI S2 0 1 = zI SM 0 1) (e4 : S2.2.1 1 = SM.2.1 1) : LT S1 S2 := by
  obtain ⟨n, B, ⟨h1, h2, h3⟩, h4, h5, h6⟩ := h
  exact ⟨n, B, ⟨by rw [e1]; exact h1, h2, fun i hi => by rw [e2]; exact h3 i hi⟩, by rw [e3]; exact h4, h5, fun i hi => by rw [e4]; exact h6 i hi⟩
theorem LI.eq (h : LI SX SM) (e1 : zI S1 182 1 = zI SX 182 1) (e2 : S1.2.1 183 = SX.2.1 183) (e3 : zI S2 0 76 = zI SM 0 76) (e4 : S2.2.1 50 = SM.2.1 50) : LI S1 S2 := by
  obtain ⟨n, h1, h2, h3, h4⟩ := h
  exact ⟨n, by rw [e1]; exact h1, by rw [e3]; exact h2, h3, fun i hi => by rw [e2, e4]; exact h4 i hi⟩
theorem LR.eq (h : LR SX SM) (e1 : S1.2.1 184 = SX.2.1 184) (e2 : S2.2.1 28 = SM.2.1 28) : LR S1 S2 := fun j hj => by rw [e1, e2]; exact h j hj
theorem LR.up (h : LR SX SM) (hk : k < 6) (e1 : S1.2.1 184 = upd (SX.2.1 184) k (SX.2.1 184 k + (1 : Int32))) (e2 : S2.2.1 28 = upd (SM.2.1 28) k (SM.2.1 28 k + (1 : Int32))) : LR S1 S2 := fun j hj => by
  rw [e1, e2, w_u, w_u, h k hk]
  by_cases z : j = k
  · rw [if_pos z, if_pos z]
  · rw [if_neg z, if_neg z]
    exact h j hj
theorem LG.eq (h : LG oX gD gE SX) (e6 : S1.1 0 6 = SX.1 0 6) (e7 : S1.1 0 7 = SX.1 0 7) : LG oX gD gE S1 := ⟨h.1, e6.trans h.2.1, e7.trans h.2.2⟩
/-- tape, image, grounds stay -/
theorem LW.mk (w : LW oX gD gE SX SM) (mX : dg_sm shX WF WA SX S1) (mM : dg_sm shM WF' WA' SM S2) (c : ckB WF WA WF' WA') (hR : LR S1 S2) (hS : LSs oX S1 S2) : LW oX gD gE S1 S2 :=
  ⟨w.1.eq (sFI mX aX_1 c.1.1) (sFA mX aX_2 c.2.1.1) (sFI mM aM_0 c.2.2.1.1) (sFA mM aM_1 c.2.2.2.1), hR, w.2.2.1.eq (sFI mX aX_182 c.1.2.1) (sFA mX aX_183 c.2.1.2) (sFI mM aM_0 c.2.2.1.2) (sFA mM aM_50 c.2.2.2.2), w.2.2.2.1.eq (mX.1 0 6 _ aX_0 c.1.2.2.1) (mX.1 0 7 _ aX_0 c.1.2.2.2), hS⟩
theorem LR.sm (h : LR SX SM) (mX : dg_sm shX WF WA SX S1) (mM : dg_sm shM WF' WA' SM S2) (c : ckR WA WA') : LR S1 S2 := h.eq (sFA mX aX_184 c.1) (sFA mM aM_28 c.2)
theorem k_sk.m (m : dg_sm shX WF WA S S1) (c : ckS WF) (z : 45 ∉ WA) : k_sk S S1 :=
  ⟨fun b => sFI m aX_221 (fun q => absurd rfl (of_decide_eq_true (List.all_eq_true.mp c _ q)).1), fun b => sFI m aX_229 (fun q => absurd rfl (of_decide_eq_true (List.all_eq_true.mp c _ q)).2), sFA m aX_230 z⟩
theorem cx_fe.f (h : cx_fe F S) (e5 : zI S1 229 5 = zI S 229 5) (e : S1.2.1 230 = S.2.1 230) : cx_fe F S1 := by
  obtain ⟨h1, h2⟩ := h
  exact ⟨by rw [e5]; exact h1, fun i hi => by rw [e]; exact h2 i hi⟩
theorem mx_fe.f (h : mx_fe F S) (e9 : zI S1 0 69 = zI S 0 69) (e5 : S1.2.1 45 = S.2.1 45) (e6 : S1.2.1 46 = S.2.1 46) (e7 : S1.2.1 47 = S.2.1 47) : mx_fe F S1 := by
  obtain ⟨h1, h2⟩ := h
  exact ⟨by rw [e9]; exact h1, fun i hi => by rw [e5, e6, e7]; exact h2 i hi⟩
theorem fe_sm (mX : dg_sm shX WF WA SX S1) (mM : dg_sm shM WF' WA' SM S2) (c : ckF WF WA WF' WA') (h : cx_fe F SX ∧ mx_fe F SM) : cx_fe F S1 ∧ mx_fe F S2 :=
  ⟨h.1.f (sFI mX aX_229 c.1.1) (sFA mX aX_230 c.1.2), h.2.f (sFI mM aM_0 c.2.1) (sFA mM aM_45 c.2.2.1) (sFA mM aM_46 c.2.2.2.1) (sFA mM aM_47 c.2.2.2.2)⟩
theorem n5_sm (mX : dg_sm shX WF WA SX S1) (mM : dg_sm shM WF' WA' SM S2) (c : ckF WF WA WF' WA') (h : zI SX 229 5 = zI SM 0 69) : zI S1 229 5 = zI S2 0 69 := by
  rw [sFI mX aX_229 c.1.1, sFI mM aM_0 c.2.1]
  exact h
theorem cx_cs.f (h : cx_cs G K A S) (k : ∀ b, b = 2 ∨ b = 4 ∨ b = 5 → zI S1 221 b = zI S 221 b) : cx_cs G K A S1 := by
  unfold cx_cs cx_shA at h ⊢
  rw [k 2 (by decide), k 4 (by decide), k 5 (by decide)]
  exact h
theorem cx_cc.f (h : cx_cc G K A S) (k : ∀ b, b = 3 ∨ b = 6 ∨ b = 7 ∨ b = 8 → zI S1 221 b = zI S 221 b) : cx_cc G K A S1 := by
  unfold cx_cc cx_chA at h ⊢
  rw [k 3 (by decide), k 6 (by decide), k 7 (by decide), k 8 (by decide)]
  exact h
theorem cx_ct.f (h : cx_ct G K A F S) (k : ∀ b, b = 4 ∨ b = 6 ∨ b = 7 ∨ b = 8 → zI S1 229 b = zI S 229 b) : cx_ct G K A F S1 := by
  unfold cx_ct cx_tA at h ⊢
  rw [k 4 (by decide), k 6 (by decide), k 7 (by decide), k 8 (by decide)]
  exact h
theorem none_r (hk : a1.toInt = k) : F_d_none o S a1 = (r_X k S, (-1 : Int32)) := by
  have kn : a1.toNatClampNeg = k := by rw [dk_clN]; omega
  rw [F_d_none_p0 rfl rfl rfl, kn]
  rfl
theorem no_r (hk : a1.toInt = k) : F_d_no o S a1 = (r_X k S, (0 : Int32)) := by
  have kn : a1.toNatClampNeg = k := by rw [dk_clN]; omega
  rw [F_d_no_p0 rfl rfl rfl, kn]
  rfl
theorem ref_r (hk : a1.toInt = k) : F_m_refuses o S a1 = (r_M k S, (-1 : Int32)) := by
  have kn : a1.toNatClampNeg = k := by rw [dk_clN]; omega
  rw [F_m_refuses_p0 rfl rfl rfl, kn]
  rfl
theorem r_X.kp : kp (fun _ _ => False) (fun a => a = 184) S (r_X k S) := kp.uf kp.rf rfl
theorem r_M.kp : kp (fun _ _ => False) (fun a => a = 28) S (r_M k S) := kp.uf kp.rf rfl
theorem cx_0.kk {LF : Nat → Nat → Prop} {LA : Nat → Prop} (h : cx_0 o g x S) (t : kp LF LA S S1) (f6 : ¬ LF 0 6) (f12 : ¬ LF 0 12) (fg : ∀ b, ¬ LF g b) (f3 : ∀ b, ¬ LF 3 b) (f17 : ∀ b, ¬ LF 17 b) (a4 : ¬ LA 4) (a9 : ¬ LA 9) : cx_0 o g x S1 := by
  obtain ⟨h1, ⟨g0, g1, g6, g8, g11⟩, ⟨p0, p1, p4, p9⟩, ⟨q1, q2⟩, hx⟩ := h
  exact ⟨by rw [t.R f6]; exact h1, ⟨by rw [t.I (fg 0)]; exact g0, by rw [t.I (fg 1)]; exact g1, by rw [t.I (fg 6)]; exact g6, by rw [t.I (fg 8)]; exact g8, by rw [t.I (fg 11)]; exact g11⟩, ⟨by rw [t.I (f3 0)]; exact p0, by rw [t.I (f3 1)]; exact p1, fun k => by rw [(t.2 4 a4).1]; exact p4 k, fun k => by rw [(t.2 9 a9).1]; exact p9 k⟩, ⟨by rw [t.I (f17 1)]; exact q1, by rw [t.I (f17 2)]; exact q2⟩, by rw [t.I f12]; exact hx⟩
theorem mx_0.kk {LF : Nat → Nat → Prop} {LA : Nat → Prop} (h : mx_0 x S) (t : kp LF LA S S1) (f : ∀ b, b = 13 ∨ b = 47 ∨ b = 61 ∨ b = 62 → ¬ LF 0 b) (al : ∀ a, a = 2 ∨ a = 3 ∨ a = 8 ∨ a = 9 ∨ a = 12 ∨ a = 29 ∨ a = 30 ∨ a = 33 ∨ a = 37 ∨ a = 38 → ¬ LA a) : mx_0 x S1 := by
  obtain ⟨h1, ⟨h2, h3, h8, h9, h12⟩, ⟨h29, h30, h33, h38, h37⟩, h61, hx⟩ := h
  have e13 : zI S1 0 13 = zI S 0 13 := t.I (f 13 (by decide))
  exact ⟨by rw [t.I (f 47 (by decide))]; exact h1, ⟨by rw [e13, (t.2 2 (al 2 (by decide))).1]; exact h2, by rw [e13, (t.2 3 (al 3 (by decide))).1]; exact h3, by rw [e13, (t.2 8 (al 8 (by decide))).1]; exact h8, by rw [e13, (t.2 9 (al 9 (by decide))).1]; exact h9, by rw [e13, (t.2 12 (al 12 (by decide))).1]; exact h12⟩, ⟨by rw [(t.2 29 (al 29 (by decide))).1]; exact h29, by rw [(t.2 30 (al 30 (by decide))).1]; exact h30, by rw [(t.2 33 (al 33 (by decide))).1]; exact h33, by rw [(t.2 38 (al 38 (by decide))).1]; exact h38, fun k => by rw [(t.2 37 (al 37 (by decide))).1]; exact h37 k⟩, by rw [t.I (f 61 (by decide))]; exact h61, by rw [t.L (f 62 (by decide))]; exact hx⟩
/-- what leaves both as they are -/
theorem LSy.kk {LF LF' : Nat → Nat → Prop} {LA LA' : Nat → Prop} (h : LSy oX g G K A L U x F SX SM) (t : kp LF LA SX S1) (t' : kp LF' LA' SM S2) (f06 : ¬ LF 0 6) (f012 : ¬ LF 0 12) (fg : ∀ a b, 185 ≤ a → a ≤ 208 → ¬ LF a b) (f3 : ∀ b, ¬ LF 3 b) (f17 : ∀ b, ¬ LF 17 b) (fh : ∀ a b, 42 ≤ a → a < 182 → ¬ LF a b) (fs : ∀ b, ¬ LF 221 b ∧ ¬ LF 229 b) (ag : ∀ a, 185 ≤ a → a ≤ 208 → ¬ LA a) (a3 : ∀ a, 4 ≤ a → a ≤ 9 → ¬ LA a) (a18 : ¬ LA 18) (ah : ∀ a, 21 ≤ a → a < 182 → ¬ LA a) (af : ¬ LA 230) (f' : ∀ b, b = 13 ∨ b = 47 ∨ b = 60 ∨ b = 61 ∨ b = 62 ∨ b = 63 ∨ b = 69 → ¬ LF' 0 b) (ag' : ∀ a, a ≤ 19 → ¬ LA' a) (al' : ∀ a, 29 ≤ a → a ≤ 39 → ¬ LA' a) (af' : ∀ a, 45 ≤ a → a ≤ 47 → ¬ LA' a) : LSy oX g G K A L U x F S1 S2 := by
  obtain ⟨h1, ⟨h2, h3⟩, ⟨h4, h5⟩, h6, h7, h8⟩ := h
  have hb := h1.1.1.1.2.2.2
  exact ⟨h1, ⟨h2.keep t f06 f012 fg f3 f17 fh ag a3 a18 ah, h3.keep hb t' (fun b hb => f' b (by omega)) ag' al'⟩, ⟨h4.f (t.I (fs 5).2) (t.2 230 af).1, h5.f (t'.I (f' 69 (by decide))) (t'.2 45 (af' 45 (by decide) (by decide))).1 (t'.2 46 (af' 46 (by decide) (by decide))).1 (t'.2 47 (af' 47 (by decide) (by decide))).1⟩, h6.f (fun b _ => t.I (fs b).1), h7.f (fun b _ => t.I (fs b).1), h8.f (fun b _ => t.I (fs b).2)⟩
theorem LSy.no (h : LSy oX g G K A L U x F SX SM) : LSy oX g G K A L U x F (r_X k SX) (r_M i SM) :=
  h.kk r_X.kp r_M.kp id id (fun _ _ _ _ => id) (fun _ => id) (fun _ => id) (fun _ _ _ _ => id) (fun _ => ⟨id, id⟩) (fun a _ _ => by omega) (fun a _ _ => by omega) (by decide) (fun a _ _ => by omega) (by decide) (fun _ _ => id) (fun a _ => by omega) (fun a _ _ => by omega) (fun a _ _ => by omega)
theorem LSn.no (h : LSn oX g x SX SM) : LSn oX g x (r_X k SX) (r_M i SM) :=
  ⟨h.1, ⟨h.2.1.1.kk r_X.kp id id (fun _ => id) (fun _ => id) (fun _ => id) (by decide) (by decide), h.2.1.2.kk r_M.kp (fun _ _ => id) (fun a _ => by omega)⟩, by rw [r_X.kp.I id, r_M.kp.I id]; exact h.2.2⟩
theorem LSs.no (h : LSs oX SX SM) : LSs oX (r_X k SX) (r_M i SM) := by
  rcases h with ⟨g, G, K, A, L, U, x, F, h⟩ | ⟨g, x, h⟩
  · exact Or.inl ⟨g, G, K, A, L, U, x, F, h.no⟩
  · exact Or.inr ⟨g, x, h.no⟩
theorem LR.no (h : LR SX SM) (hk : k < 6) : LR (r_X k SX) (r_M k SM) := h.up hk (by unfold r_X; rw [w_f, if_pos rfl]) (by unfold r_M; rw [w_f, if_pos rfl])
end LA
