section
/-! IMAGE: what it is; the class -/
theorem w_shk {a s : Int32} {v k : Nat} (ha : a.toInt = v) (hv : v < 2 ^ 31) (hs : (s.toBitVec.smod 32).toNat = k) : (a >>> s).toInt = ((v / 2 ^ k : Nat) : Int) := by
  have e : a = nI v := Int32.toInt_inj.mp (by rw [ha, nI_toInt hv])
  have h2 : v / 2 ^ k ≤ v := Nat.div_le_self _ _
  rw [e, pk_shrN hv s k hs, nI_toInt (Nat.lt_of_le_of_lt h2 hv)]
theorem w_255 {a : Int32} (h : 0 ≤ a.toInt) : (a &&& 255).toInt = a.toInt % 256 := by
  have hl := Int32.toInt_lt a
  obtain ⟨v, hv⟩ : ∃ v : Nat, a.toInt = v := ⟨a.toInt.toNat, by omega⟩
  have v31 : v < 2 ^ 31 := by
    have : v < 2147483648 := by omega
    exact this
  have e : a = nI v := Int32.toInt_inj.mp (by rw [hv, nI_toInt v31])
  have b : v % 2 ^ 8 < 256 := Nat.mod_lt _ (by decide)
  have e8 : (2 : Nat) ^ 8 = 256 := by decide
  rw [hv, e, pk_andN (n := v) (m := 255) (Nat.lt_trans v31 (by decide)) 8 (by decide), nI_toInt (Nat.lt_trans b (by decide)), e8]
  omega
theorem getD_ap {l : List Int} {b : Int} {i : Nat} (h : i ≤ l.length) : (l ++ [b]).getD i 0 = if i = l.length then b else l.getD i 0 := by
  by_cases q : i = l.length
  · rw [if_pos q, q, List.getD_eq_getElem?_getD, List.getElem?_concat_length]
    rfl
  · rw [if_neg q, List.getD_eq_getElem?_getD, List.getElem?_append_left (by omega), ← List.getD_eq_getElem?_getD]
/-- the check of the first i bytes -/
def s_cn (l : List Int) : Nat → Int
  | 0 => 233
  | i + 1 => (5 * s_cn l i + l.getD i 0) % 251
theorem s_cn_b {l : List Int} : ∀ i : Nat, 0 ≤ s_cn l i ∧ s_cn l i ≤ 250
  | 0 => ⟨by show (0 : Int) ≤ 233; decide, by show (233 : Int) ≤ 250; decide⟩
  | i + 1 => by
    show 0 ≤ (5 * s_cn l i + l.getD i 0) % 251 ∧ (5 * s_cn l i + l.getD i 0) % 251 ≤ 250
    omega
theorem s_cn_ap {l : List Int} {b : Int} : ∀ i : Nat, i ≤ l.length → s_cn (l ++ [b]) i = s_cn l i
  | 0, _ => rfl
  | i + 1, h => by
    show (5 * s_cn (l ++ [b]) i + (l ++ [b]).getD i 0) % 251 = (5 * s_cn l i + l.getD i 0) % 251
    rw [s_cn_ap i (by omega), getD_ap (by omega), if_neg (by omega)]
def s_sg (f : Nat → Int) (l : List Int) : Nat → List Int
  | 0 => l
  | n + 1 => s_sg f l n ++ [f n]
theorem s_sg_l {f : Nat → Int} {l : List Int} : ∀ n : Nat, (s_sg f l n).length = l.length + n
  | 0 => rfl
  | n + 1 => by
    show (s_sg f l n ++ [f n]).length = l.length + (n + 1)
    rw [List.length_append, s_sg_l n]
    rfl
noncomputable def s_iz (G A : aR) (l : List Int) : Nat → List Int
  | 0 => l
  | c + 1 => s_if (s_in G (c : Int)) (s_iz G A l c ++ [cx_en (s_c A (c : Int))]) (s_iz G A l c)
theorem s_iz_y {G A : aR} {l : List Int} {c : Nat} (h : s_in G (c : Int)) : s_iz G A l (c + 1) = s_iz G A l c ++ [cx_en (s_c A (c : Int))] := s_if_y h
theorem s_iz_n {G A : aR} {l : List Int} {c : Nat} (h : ¬ s_in G (c : Int)) : s_iz G A l (c + 1) = s_iz G A l c := s_if_n h
theorem s_iz_same {G A : aR} {l : List Int} {c : Nat} : ∀ d : Nat, (∀ j : Nat, c ≤ j → j < c + d → ¬ s_in G (j : Int)) → s_iz G A l (c + d) = s_iz G A l c
  | 0, _ => rfl
  | d + 1, h => by
    rw [show c + (d + 1) = (c + d) + 1 from rfl, s_iz_n (h (c + d) (by omega) (by omega)), s_iz_same d (fun j h1 h2 => h j h1 (by omega))]
theorem s_iz_l {G A : aR} {l : List Int} (hb : s_gb G) : ∀ c : Nat, c ≤ 64 → (s_iz G A l c).length ≤ l.length + min (7 * (c / 8) + min (c % 8) 7) 49
  | 0, _ => by
    show l.length ≤ _
    omega
  | c + 1, hc => by
    have ih := s_iz_l (A := A) (l := l) hb c (by omega)
    obtain ⟨⟨g1, g2⟩, g3, g4⟩ := hb
    by_cases q : s_in G (c : Int)
    · rw [s_iz_y q, List.length_append]
      show (s_iz G A l c).length + 1 ≤ _
      obtain ⟨q1, q2, q3⟩ := q
      omega
    · rw [s_iz_n q]
      omega
def s_pl (A : aR) (l : List Int) : Nat → List Int
  | 0 => l
  | k + 1 => ((s_pl A l k ++ [A 3 k]) ++ [A 4 k % 8]) ++ [A 4 k / 8]
theorem s_pl_l {A : aR} {l : List Int} : ∀ k : Nat, (s_pl A l k).length = l.length + 3 * k
  | 0 => rfl
  | k + 1 => by
    show (((s_pl A l k ++ [A 3 k]) ++ [A 4 k % 8]) ++ [A 4 k / 8]).length = l.length + 3 * (k + 1)
    rw [List.length_append, List.length_append, List.length_append, s_pl_l k]
    show l.length + 3 * k + 1 + 1 + 1 = _
    omega
def s_i0 (A : aR) : List Int := [A 0 0 / 256, A 0 0 % 256, A 0 1 / 65536, A 0 1 / 256 % 256, A 0 1 % 256]
noncomputable def s_i1 (G A : aR) : List Int := s_sg (fun k => A 2 k) (s_iz G A (s_i0 A) 64) (G 0 5).toNat
noncomputable def s_i2 (G A : aR) : List Int := s_sg (fun k => A 6 k) (s_sg (fun k => A 5 k) (s_pl A (s_i1 G A) (G 0 6).toNat) (G 0 7).toNat) 10
/-- IMAGE -/
noncomputable def s_im (G A : aR) : List Int := s_i2 G A ++ [s_cn (s_i2 G A) (s_i2 G A).length]
theorem s_i1_l {G A : aR} (hb : s_gx G) : (s_i1 G A).length ≤ 54 + (G 0 5).toNat := by
  have := s_iz_l (A := A) (l := s_i0 A) hb.1.1 64 (Nat.le_refl 64)
  have e : (s_i0 A).length = 5 := rfl
  unfold s_i1
  rw [s_sg_l]
  omega
theorem s_i2_l {G A : aR} (hb : s_gx G) : (s_i2 G A).length ≤ 123 := by
  have h1 := s_i1_l (A := A) hb
  have h5 := hb.2.2.2.1
  have h6 := hb.1.2.2
  have h7 := hb.2.2.2.2.1
  unfold s_i2
  rw [s_sg_l, s_sg_l, s_pl_l]
  omega
/-- what the class has written -/
def cx_wl (l : List Int) (S : dg_S) : Prop := ((zI S 182 1).toInt = l.length ∧ l.length ≤ 124) ∧ (zI S 182 3).toInt = s_cn l l.length ∧ ∀ i, i < l.length → (S.2.1 183 i).toInt = l.getD i 0
def k_im (S S1 : dg_S) : Prop := kp (fun a b => a = 182 ∧ (b = 1 ∨ b = 3)) (fun a => a = 183) S S1
section EP
variable {o oX oM g n p k i : Nat} {G A A' : aR} {K : Nat → List Int} {L L' : s_L} {U : s_U} {F : s_F} {l : List Int} {S S0 S1 SX SM T : dg_S} {x x' r c v t : Int} {a a1 a2 a3 a4 y : Int32}
theorem cx_iput (h : cx_wl l S) (hl : l.length < 124) (ha : a1.toInt = v) (hv : 0 ≤ v ∧ v ≤ 255) : ∃ S1, F_i_put o S a1 = S1 ∧ cx_wl (l ++ [v]) S1 ∧ k_im S S1 := by
  have z1 : (1 : Int32).toInt = 1 := by decide +kernel
  have z5 : (5 : Int32).toInt = 5 := by decide +kernel
  have z251 : (251 : Int32).toInt = 251 := by decide +kernel
  have z124 : (124 : Int32).toInt = 124 := by decide +kernel
  obtain ⟨⟨h1, h2⟩, h3, h4⟩ := h
  have cb := s_cn_b (l := l) l.length
  have q0 : ¬ (124 : Int32) ≤ zI S 182 1 := fun z => by have := dk_gec z124 z; omega
  obtain ⟨S4, e4⟩ : ∃ X, X = dg_uf S 183 (upd (S.2.1 183) (zI S 182 1).toNatClampNeg a1) := ⟨_, rfl⟩
  obtain ⟨S6, e6⟩ : ∃ X, X = dg_uF S4 182 1 (.int (zI S 182 1 + (1 : Int32))) := ⟨_, rfl⟩
  obtain ⟨w, hw⟩ : ∃ w : Int32, w = (5 : Int32) * zI S6 182 3 + a1 := ⟨_, rfl⟩
  obtain ⟨S11, e11⟩ : ∃ X, X = dg_uF S6 182 3 (.int (w - w / (251 : Int32) * (251 : Int32))) := ⟨_, rfl⟩
  have i3 : (zI S6 182 3).toInt = s_cn l l.length := by
    rw [e6, w_I0 (by decide), e4]
    exact h3
  have v5 : ((5 : Int32) * zI S6 182 3).toInt = 5 * s_cn l l.length := dk_mulT z5 i3 (by omega) (by omega)
  have vw : w.toInt = 5 * s_cn l l.length + v := by
    rw [hw]
    exact dk_addT v5 ha (by omega) (by omega)
  have nn : (zI S 182 1).toNatClampNeg = l.length := by rw [dk_clN]; omega
  have len : (l ++ [v]).length = l.length + 1 := by
    rw [List.length_append]
    rfl
  refine ⟨S11, F_i_put_p1 rfl q0 e4 rfl e6 rfl rfl hw rfl e11, ⟨⟨?_, by omega⟩, ?_, fun i hi => ?_⟩, ?_⟩
  · rw [e11, w_I0 (by decide), e6, w_I, if_pos ⟨rfl, rfl⟩, len, dk_addT h1 z1 (by omega) (by omega)]
    omega
  · rw [e11, w_I, if_pos ⟨rfl, rfl⟩, len, dk_remL (by omega) z251 (by decide), vw]
    show _ = (5 * s_cn (l ++ [v]) l.length + (l ++ [v]).getD l.length 0) % 251
    rw [s_cn_ap _ (Nat.le_refl _), getD_ap (Nat.le_refl _), if_pos rfl]
  · rw [len] at hi
    rw [getD_ap (by omega), e11, e6]
    show (S4.2.1 183 i).toInt = _
    rw [e4, w_f, if_pos rfl, w_u, nn]
    by_cases q : i = l.length
    · rw [if_pos q, if_pos q]
      exact ha
    · rw [if_neg q, if_neg q]
      exact h4 i (by omega)
  · rw [e11, e6, e4]
    exact kp.uF (kp.uF (kp.uf kp.rf rfl) ⟨rfl, Or.inl rfl⟩) ⟨rfl, Or.inr rfl⟩
/-- a row is written -/
theorem cx_putAll {f9 : Int32 × dg_S → (Int32 × dg_S) ⊕ dg_S} {z : dg_S} {N q : Nat} {f : Nat → Int} (f0 : ∀ (x : Int32) (T : dg_S), a3 ≤ x → f9 (x, T) = .inr T) (f1 : ∀ (x : Int32) (T : dg_S), ¬ a3 ≤ x → f9 (x, T) = .inl (x + 1, F_i_put o T (T.2.1 q (a2 + x).toNatClampNeg))) (hq : q ≠ 183) (h : cx_wl l S) (h3 : a3.toInt = n) (hN : n + 1 ≤ N) (hl : l.length + n ≤ 124) (h2 : a2.toInt = p) (hp : p ≤ 100) (hf : ∀ i, i < n → (S.2.1 q (p + i)).toInt = f i ∧ 0 ≤ f i ∧ f i ≤ 255) : ∃ S1, lp f9 z N ((0 : Int32), S) = S1 ∧ cx_wl (s_sg f l n) S1 ∧ k_im S S1 := by
  have z0 : (0 : Int32).toInt = 0 := by decide +kernel
  refine lp_cnt (f := f9) (z := z) (W := n) (P := fun i T => cx_wl (s_sg f l i) T ∧ k_im S T) (Q := fun T => ∃ S1, T = S1 ∧ cx_wl (s_sg f l n) S1 ∧ k_im S S1) (by omega) (fun i iI T hi hiI hP => ?_) (fun iI T hiI hP => ⟨_, f0 iI T (w_le.mpr (by omega)), T, rfl, hP⟩) N 0 0 S (by omega) (by omega) z0 ⟨h, kp.rf⟩
  obtain ⟨t1, t2⟩ := hP
  have e2 : (a2 + iI).toInt = (p : Int) + i := dk_addT h2 hiI (by omega) (by omega)
  have n2 : (a2 + iI).toNatClampNeg = p + i := by rw [dk_clN, e2]; omega
  obtain ⟨f2, f3⟩ := hf i hi
  obtain ⟨T1, e1, w1, k1⟩ := cx_iput (o := o) (a1 := T.2.1 q (a2 + iI).toNatClampNeg) (v := f i) t1 (by rw [s_sg_l]; omega) (by rw [n2, (t2.2 q hq).1]; exact f2) f3
  exact ⟨T1, by rw [f1 iI T (fun z => by have := w_le.mp z; omega), e1], w1, t2.tr k1⟩
theorem k_im.rx (h : RX o g G K A L U x S) (k : k_im S S1) : RX o g G K A L U x S1 := by
  have sep := rX_sep h.2.1.1.1
  exact h.keep k (by omega) (by omega) (fun a b _ _ => by omega) (fun b => by omega) (fun b => by omega) (fun a b _ _ => by omega) (fun a _ _ => by omega) (fun a _ _ => by omega) (by omega) (fun a _ _ => by omega)
/-- IMAGE of the class -/
theorem cx_image (ok : s_ok G K A U) (h : RX o g G K A L U x S) : ∃ (S1 : dg_S) (y : Int32), F_d_image o S = (S1, y) ∧ y.toInt = ((s_im G A).length : Int) ∧ cx_wl (s_im G A) S1 ∧ RX o g G K A L U x S1 ∧ k_im S S1 := by
  have z0 : (0 : Int32).toInt = 0 := by decide +kernel
  have z8 : (8 : Int32).toInt = 8 := by decide +kernel
  have z10 : (10 : Int32).toInt = 10 := by decide +kernel
  have z233 : (233 : Int32).toInt = 233 := by decide +kernel
  have s8 : (((8 : Int32) &&& 31).toBitVec.smod 32).toNat = 8 := by decide +kernel
  have s16 : (((16 : Int32) &&& 31).toBitVec.smod 32).toNat = 16 := by decide +kernel
  have hw := ok.2.2.1.1
  have hgb := ok.1.1.1
  have h5 := ok.1.2.2.2.1
  have h6 := ok.1.1.2.2
  have h7 := ok.1.2.2.2.2.1
  obtain ⟨w0, w1, w2, w3, w5, w6⟩ := hw
  have sep := rX_sep h.2.1.1.1
  obtain ⟨S2, e2⟩ : ∃ X, X = dg_uF S 182 1 (.int (0 : Int32)) := ⟨_, rfl⟩
  obtain ⟨S4, e4⟩ : ∃ X, X = dg_uF S2 182 3 (.int (233 : Int32)) := ⟨_, rfl⟩
  have k4 : k_im S S4 := by
    rw [e4, e2]
    exact kp.uF (kp.uF kp.rf ⟨rfl, Or.inl rfl⟩) ⟨rfl, Or.inr rfl⟩
  have l4 : cx_wl [] S4 := by
    refine ⟨⟨?_, by decide⟩, ?_, fun i hi => absurd hi (Nat.not_lt_zero i)⟩
    · rw [e4, w_I0 (by decide), e2, w_I, if_pos ⟨rfl, rfl⟩]
      exact z0
    · rw [e4, w_I, if_pos ⟨rfl, rfl⟩]
      exact z233
  have p0 : (zI S 3 0).toInt = A 0 0 := h.2.2.1.2.1
  have p1 : (zI S 3 1).toInt = A 0 1 := h.2.2.1.2.2.1
  obtain ⟨v0, hv0⟩ : ∃ v : Nat, A 0 0 = v := ⟨(A 0 0).toNat, by omega⟩
  obtain ⟨v1, hv1⟩ : ∃ v : Nat, A 0 1 = v := ⟨(A 0 1).toNat, by omega⟩
  have b31 : ∀ v : Nat, v ≤ 99999 → v < 2 ^ 31 := fun v hv => Nat.lt_of_le_of_lt hv (by decide)
  have f8 : (2 : Nat) ^ 8 = 256 := by decide
  have f16 : (2 : Nat) ^ 16 = 65536 := by decide
  have b1 : (zI S 3 0 >>> ((8 : Int32) &&& 31)).toInt = A 0 0 / 256 := by rw [w_shk (p0.trans hv0) (b31 _ (by omega)) s8, f8, hv0]; omega
  have b2 : (zI S 3 0 &&& (255 : Int32)).toInt = A 0 0 % 256 := by rw [w_255 (by omega), p0]
  obtain ⟨S7, e7, l7, k7⟩ := cx_iput (o := o) l4 (by decide) b1 (by omega)
  obtain ⟨S9, e9, l9, k9⟩ := cx_iput (o := o) l7 (by show 1 < 124; decide) b2 (by omega)
  have c1 : (zI S 3 1 >>> ((16 : Int32) &&& 31)).toInt = A 0 1 / 65536 := by rw [w_shk (p1.trans hv1) (b31 _ (by omega)) s16, f16, hv1]; omega
  have c2 : (zI S 3 1 >>> ((8 : Int32) &&& 31)).toInt = A 0 1 / 256 := by rw [w_shk (p1.trans hv1) (b31 _ (by omega)) s8, f8, hv1]; omega
  have c3 : (zI S 3 1 >>> ((8 : Int32) &&& 31) &&& (255 : Int32)).toInt = A 0 1 / 256 % 256 := by rw [w_255 (by omega), c2]
  have c4 : (zI S 3 1 &&& (255 : Int32)).toInt = A 0 1 % 256 := by rw [w_255 (by omega), p1]
  obtain ⟨S12, e12, l12, k12⟩ := cx_iput (o := o) l9 (by show 2 < 124; decide) c1 (by omega)
  obtain ⟨S15, e15, l15, k15⟩ := cx_iput (o := o) l12 (by show 3 < 124; decide) c3 (by omega)
  obtain ⟨S17, e17, l17, k17⟩ := cx_iput (o := o) l15 (by show 4 < 124; decide) c4 (by omega)
  have l17 : cx_wl (s_i0 A) S17 := l17
  have t17 : k_im S S17 := (((((k4.tr k7).tr k9).tr k12).tr k15).tr k17)
  have keep : ∀ T, k_im S T → RX o g G K A L U x T := fun T k => k_im.rx h k
  have ei : ∀ T, k_im S T → ∀ b, zI T g b = zI S g b := fun T k b => k.I (fun z => by omega)
  have f0' : (zI S g 0).toInt = G 0 0 := h.2.1.2.1.1
  have f1' : (zI S g 1).toInt = G 0 1 := h.2.1.2.1.2.1
  have f6' : (zI S g 6).toInt = G 0 5 := h.2.1.2.1.2.2.2.2.1
  have f8' : (zI S g 8).toInt = G 0 6 := h.2.1.1.2.2.1
  have f11' : (zI S g 11).toInt = G 0 7 := h.2.1.2.1.2.2.2.2.2
  have hl1 := s_i1_l (A := A) ok.1
  have hl2 := s_i2_l (A := A) ok.1
  obtain ⟨R, hR⟩ : ∃ R : Nat, (R : Int) = G 0 1 := ⟨(G 0 1).toNat, by omega⟩
  obtain ⟨C, hC⟩ : ∃ C : Nat, (C : Int) = G 0 0 := ⟨(G 0 0).toNat, by omega⟩
  rw [F_d_image_p0 h.1.symm rfl rfl, F_i_write_p7 e2 e4 rfl rfl e7.symm rfl e9.symm, F_i_write_p6 rfl rfl e12.symm rfl rfl e15.symm rfl e17.symm]
  -- the cells, row by row
  have cells := lp_cnt (f := F_i_write_B5 S g o 3) (z := S) (W := R) (P := fun r T => cx_wl (s_iz G A (s_i0 A) (8 * r)) T ∧ k_im S T) (Q := fun q => ∃ T, q = F_i_write_J2 S g o T 3 ∧ cx_wl (s_iz G A (s_i0 A) (8 * R)) T ∧ k_im S T) (by omega) (fun r rI T hr hrI hP => by
    obtain ⟨t1, t2⟩ := hP
    have e8 : ((8 : Int32) * rI).toInt = 8 * (r : Int) := dk_mulT z8 hrI (by omega) (by omega)
    have e88 : ((8 : Int32) * rI + (8 : Int32)).toInt = ((8 * r + 8 : Nat) : Int) := by rw [dk_addT e8 z8 (by omega) (by omega)]; omega
    have rT := keep T t2
    have len := s_iz_l (A := A) (l := s_i0 A) hgb (8 * r) (by omega)
    have el : (s_i0 A).length = 5 := rfl
    obtain ⟨T1, g1, g2, g3⟩ := cx_putAll (o := o) (f9 := F_i_putAll_cells_B1 (zI S g 0) ((8 : Int32) * rI + (8 : Int32)) 3 o) (z := T) (N := (8 - ((0 : Int32)).toInt).toNat + 1) (q := 3 + 1) (n := C) (p := 8 * r + 8) (f := fun i => cx_en (s_c A ((8 * r + i : Nat) : Int))) (fun x T h => F_i_putAll_cells_p0 h) (fun x T h => F_i_putAll_cells_p1 h rfl rfl rfl rfl) (by decide) t1 (by rw [f0', hC]) (by rw [z0]; omega) (by omega) e88 (by omega) (fun i hi => by
      have hin : s_in G ((8 * r + i : Nat) : Int) := ⟨by omega, by omega, by omega⟩
      obtain ⟨ce, cl, cu⟩ := (rT.2.2.1.1 ((8 * r + 8 + i : Nat) : Int) (by omega) (by omega)).1 (by rw [show ((8 * r + 8 + i : Nat) : Int) - 8 = ((8 * r + i : Nat) : Int) by omega]; exact hin)
      rw [show ((8 * r + 8 + i : Nat) : Int) - 8 = ((8 * r + i : Nat) : Int) by omega] at ce cl cu
      refine ⟨?_, ?_⟩
      · unfold cx_at at ce
        rw [show (((8 * r + 8 + i : Nat) : Int)).toNat = 8 * r + 8 + i by omega] at ce
        exact ce
      · show 0 ≤ cx_en (s_c A ((8 * r + i : Nat) : Int)) ∧ cx_en (s_c A ((8 * r + i : Nat) : Int)) ≤ 255
        unfold cx_en
        split
        · omega
        · split <;> omega)
    have seg : ∀ j : Nat, j ≤ C → s_sg (fun i => cx_en (s_c A ((8 * r + i : Nat) : Int))) (s_iz G A (s_i0 A) (8 * r)) j = s_iz G A (s_i0 A) (8 * r + j) := fun j => by
      induction j with
      | zero => intro _; rfl
      | succ j ih =>
        intro hj
        show s_sg _ _ j ++ [cx_en (s_c A ((8 * r + j : Nat) : Int))] = s_iz G A (s_i0 A) ((8 * r + j) + 1)
        rw [ih (by omega), s_iz_y ⟨by omega, by omega, by omega⟩]
    rw [seg C (Nat.le_refl C)] at g2
    have e9 := s_iz_same (G := G) (A := A) (l := s_i0 A) (c := 8 * r + C) (8 - C) (fun j j1 j2 z => by have := z.2.1; omega)
    rw [show 8 * r + C + (8 - C) = 8 * (r + 1) by omega] at e9
    rw [← e9] at g2
    exact ⟨T1, F_i_write_p5 rfl (fun z => by have := w_le.mp z; rw [f1'] at this; omega) rfl rfl rfl (g1.symm.trans (F_i_putAll_cells_p2).symm) rfl, g2, t2.tr g3⟩) (fun rI T hrI hP => ⟨_, F_i_write_p4 rfl (w_le.mpr (by rw [f1']; omega)), T, rfl, hP⟩) ((8 - ((0 : Int32)).toInt).toNat + 1) 0 0 S17 (by rw [z0]; omega) (by omega) z0 ⟨l17, t17⟩
  obtain ⟨T, eT, lT, kT⟩ := cells
  have e64 := s_iz_same (G := G) (A := A) (l := s_i0 A) (c := 8 * R) (64 - 8 * R) (fun j j1 j2 z => by have := z.2.2; omega)
  rw [show 8 * R + (64 - 8 * R) = 64 by omega] at e64
  rw [← e64] at lT
  have len64 := s_iz_l (A := A) (l := s_i0 A) hgb 64 (Nat.le_refl 64)
  have el : (s_i0 A).length = 5 := rfl
  have rT := keep T kT
  obtain ⟨T1, g1, g2, g3⟩ := cx_putAll (o := o) (f9 := F_i_putAll_hurts_B1 (zI S g 6) 0 3 o) (z := T) (N := (7 - ((0 : Int32)).toInt).toNat + 1) (q := 3 + 2) (n := (G 0 5).toNat) (p := 0) (f := fun k => A 2 k) (fun x T h => F_i_putAll_hurts_p0 h) (fun x T h => F_i_putAll_hurts_p1 h rfl rfl rfl rfl) (by decide) lT (by rw [f6']; omega) (by rw [z0]; omega) (by omega) z0 (by decide) (fun i hi => by
    rw [Nat.zero_add]
    have := w2 i (by omega)
    exact ⟨rT.2.2.1.2.2.2.1 i (by omega), by show 0 ≤ A 2 i ∧ A 2 i ≤ 255; omega⟩)
  have g2 : cx_wl (s_i1 G A) T1 := g2
  have kT1 : k_im S T1 := kT.tr g3
  rw [eT, F_i_write_p3 rfl (g1.symm.trans (F_i_putAll_hurts_p2).symm)]
  -- the plan
  have plan := lp_cnt (f := F_i_write_B4 S g o 3) (z := S) (W := (G 0 6).toNat) (P := fun k T => cx_wl (s_pl A (s_i1 G A) k) T ∧ k_im S T) (Q := fun q => ∃ T, q = F_i_write_J3 S g o T 3 ∧ cx_wl (s_pl A (s_i1 G A) (G 0 6).toNat) T ∧ k_im S T) (by omega) (fun k kI T hk hkI hP => by
    obtain ⟨t1, t2⟩ := hP
    have rT := keep T t2
    have kn : kI.toNatClampNeg = k := by rw [dk_clN]; omega
    obtain ⟨r3, r4⟩ := rT.2.2.1.2.2.2.2.1 k (by omega)
    have r3 : (T.2.1 (3 + 3) kI.toNatClampNeg).toInt = A 3 k := by rw [kn]; exact r3
    obtain ⟨wm, wc⟩ := w3 k (by omega)
    have wc0 := wc.1
    have len := s_pl_l (A := A) (l := s_i1 G A) k
    have la : (s_pl A (s_i1 G A) k ++ [A 3 k]).length = (s_pl A (s_i1 G A) k).length + 1 := by rw [List.length_append]; rfl
    have lb : ((s_pl A (s_i1 G A) k ++ [A 3 k]) ++ [A 4 k % 8]).length = (s_pl A (s_i1 G A) k).length + 2 := by rw [List.length_append, la]; rfl
    obtain ⟨T1, u1, u2, u3⟩ := cx_iput (o := o) t1 (by omega) r3 (by omega)
    have r4 : (T1.2.1 (3 + 4) kI.toNatClampNeg).toInt = A 4 k + 8 := by rw [kn, (u3.2 (3 + 4) (by decide)).1]; exact r4
    obtain ⟨T2, x1, x2, x3⟩ := cx_iput (o := o) (a1 := F_columnOf o T1 (T1.2.1 (3 + 4) kI.toNatClampNeg)) (v := A 4 k % 8) u2 (by omega) (by rw [cx_columnOf (by omega) (by omega), r4]; omega) (by omega)
    obtain ⟨T3, y1, y2, y3⟩ := cx_iput (o := o) (a1 := F_rowOf o T2 (T1.2.1 (3 + 4) kI.toNatClampNeg)) (v := A 4 k / 8) x2 (by omega) (by rw [cx_rowOf (by omega) (by omega), r4]; omega) (by omega)
    exact ⟨T3, F_i_write_p2 rfl (fun z => by have := w_le.mp z; rw [f8'] at this; omega) rfl u1.symm rfl rfl x1.symm rfl y1.symm rfl, y2, ((t2.tr u3).tr x3).tr y3⟩) (fun kI T hkI hP => ⟨_, F_i_write_p1 rfl (w_le.mpr (by rw [f8']; omega)), T, rfl, hP⟩) ((17 - ((0 : Int32)).toInt).toNat + 1) 0 0 T1 (by rw [z0]; omega) (by omega) z0 ⟨g2, kT1⟩
  obtain ⟨T2, eT2, lT2, kT2⟩ := plan
  have lp3 := s_pl_l (A := A) (l := s_i1 G A) (G 0 6).toNat
  have rT2 := keep T2 kT2
  obtain ⟨T3, u1, u2, u3⟩ := cx_putAll (o := o) (f9 := F_i_putAll_sold_B1 (zI S g 11) 0 3 o) (z := T2) (N := (6 - ((0 : Int32)).toInt).toNat + 1) (q := 3 + 5) (n := (G 0 7).toNat) (p := 0) (f := fun k => A 5 k) (fun x T h => F_i_putAll_sold_p0 h) (fun x T h => F_i_putAll_sold_p1 h rfl rfl rfl rfl) (by decide) lT2 (by rw [f11']; omega) (by rw [z0]; omega) (by omega) z0 (by decide) (fun i hi => by
    rw [Nat.zero_add]
    have := w5 i (by omega)
    exact ⟨rT2.2.2.1.2.2.2.2.2.1 i (by omega), by show 0 ≤ A 5 i ∧ A 5 i ≤ 255; omega⟩)
  have kT3 : k_im S T3 := kT2.tr u3
  have rT3 := keep T3 kT3
  have ls := s_sg_l (f := fun k => A 5 k) (l := s_pl A (s_i1 G A) (G 0 6).toNat) (G 0 7).toNat
  obtain ⟨T4, x1, x2, x3⟩ := cx_putAll (o := o) (f9 := F_i_putAll_tubs_B1 10 0 3 o) (z := T3) (N := (11 - ((0 : Int32)).toInt).toNat + 1) (q := 3 + 6) (n := 10) (p := 0) (f := fun k => A 6 k) (fun x T h => F_i_putAll_tubs_p0 h) (fun x T h => F_i_putAll_tubs_p1 h rfl rfl rfl rfl) (by decide) u2 z10 (by rw [z0]; decide) (by omega) z0 (by decide) (fun i hi => by
    rw [Nat.zero_add]
    have := w6 i hi
    exact ⟨rT3.2.2.1.2.2.2.2.2.2 i hi, by show 0 ≤ A 6 i ∧ A 6 i ≤ 255; omega⟩)
  have x2 : cx_wl (s_i2 G A) T4 := x2
  have kT4 : k_im S T4 := kT3.tr x3
  have cb := s_cn_b (l := s_i2 G A) (s_i2 G A).length
  obtain ⟨T5, y1, y2, y3⟩ := cx_iput (o := o) (a1 := zI T4 182 3) x2 (by omega) x2.2.1 (by omega)
  have kT5 : k_im S T5 := kT4.tr y3
  rw [eT2, F_i_write_p0 rfl (u1.symm.trans (F_i_putAll_sold_p2).symm) (x1.symm.trans (F_i_putAll_tubs_p2).symm) rfl y1.symm]
  exact ⟨T5, _, rfl, y2.1.1, y2, keep T5 kT5, kT5⟩
end EP
end
section
/-! IMAGE: the reference; OCTET; both sides -/
/-- what the reference has written -/
def mx_wl (l : List Int) (S : dg_S) : Prop := ((zI S 0 76).toInt = l.length ∧ l.length ≤ 124) ∧ ∀ i, i < l.length → (S.2.1 50 i).toInt = l.getD i 0 ∧ 0 ≤ l.getD i 0 ∧ l.getD i 0 ≤ 255
def k_in (S S1 : dg_S) : Prop := kp (fun a b => a = 0 ∧ b = 76) (fun a => a = 50) S S1
section EQ
variable {o oX oM g n p k i : Nat} {G A A' : aR} {K : Nat → List Int} {L L' : s_L} {U : s_U} {F : s_F} {l : List Int} {S S0 S1 SX SM T : dg_S} {x x' r c v t : Int} {a a1 a2 a3 a4 y : Int32}
theorem w_255b : 0 ≤ (a &&& 255).toInt ∧ (a &&& 255).toInt ≤ 255 := by
  obtain ⟨j, hj, e⟩ := pk_andE a (m := 255) 8 (by decide)
  have e8 : (2 : Nat) ^ 8 = 256 := by decide
  rw [e8] at hj
  rw [e, nI_toInt (Nat.lt_trans hj (by decide))]
  omega
theorem mx_iput (h : mx_wl l S) (hl : l.length < 124) (ha : (a1 &&& 255).toInt = v) : ∃ S1, F_m_writes o S a1 = S1 ∧ mx_wl (l ++ [v]) S1 ∧ k_in S S1 := by
  have z1 : (1 : Int32).toInt = 1 := by decide +kernel
  obtain ⟨⟨h1, h2⟩, h4⟩ := h
  obtain ⟨S3, e3⟩ : ∃ X, X = dg_uf S 50 (upd (S.2.1 50) (zI S 0 76).toNatClampNeg (a1 &&& 255)) := ⟨_, rfl⟩
  obtain ⟨S5, e5⟩ : ∃ X, X = dg_uF S3 0 76 (.int (zI S 0 76 + (1 : Int32))) := ⟨_, rfl⟩
  have nn : (zI S 0 76).toNatClampNeg = l.length := by rw [dk_clN]; omega
  have len : (l ++ [v]).length = l.length + 1 := by
    rw [List.length_append]
    rfl
  refine ⟨S5, F_m_writes_p0 rfl rfl e3 rfl e5, ⟨⟨?_, by omega⟩, fun i hi => ?_⟩, ?_⟩
  · rw [e5, w_I, if_pos ⟨rfl, rfl⟩, len, dk_addT h1 z1 (by omega) (by omega)]
    omega
  · rw [len] at hi
    rw [getD_ap (by omega), e5]
    show (S3.2.1 50 i).toInt = _ ∧ _
    rw [e3, w_f, if_pos rfl, w_u, nn]
    have vb := w_255b (a := a1)
    by_cases q : i = l.length
    · rw [if_pos q, if_pos q]
      exact ⟨ha, by omega, by omega⟩
    · rw [if_neg q, if_neg q]
      exact h4 i (by omega)
  · rw [e5, e3]
    exact kp.uF (kp.uf kp.rf rfl) ⟨rfl, rfl⟩
theorem k_in.rm (h : RM G K A L U x S) (hb : G 0 6 ≤ 16) (k : k_in S S1) : RM G K A L U x S1 := h.keep hb k (fun b hb => by omega) (fun a _ => by omega) (fun a _ _ => by omega)
theorem w_255s (h : a.toInt = v) (h0 : 0 ≤ v ∧ v ≤ 255) : (a &&& 255).toInt = v := by
  rw [w_255 (by omega), h]
  omega
/-- cells -/
theorem mx_imC (ok : s_ok G K A U) (h : RM G K A L U x S) (hl : mx_wl (s_i0 A) S) (hy : y = zI S 0 76) {S9 : dg_S} : ∃ T, lp (F_m_image_B12 S9 o) (S9, (0 : Int32)) ((65 - ((0 : Int32)).toInt).toNat + 1) ((0 : Int32), y, S) = F_m_image_J2 S9 o (zI T 0 76) T ∧ mx_wl (s_iz G A (s_i0 A) 64) T ∧ k_in S T := by
  have z0 : (0 : Int32).toInt = 0 := by decide +kernel
  have z1 : (1 : Int32).toInt = 1 := by decide +kernel
  have z64 : (64 : Int32).toInt = 64 := by decide +kernel
  have hb := ok.1.1.2.2.2
  have a254 : ((254 : Int32) &&& 255).toInt = 254 := by decide +kernel
  have am1 : ((-1 : Int32) &&& 255).toInt = 255 := by decide +kernel
  have m1 : (-1 : Int32).toInt = -1 := by decide +kernel
  have el : (s_i0 A).length = 5 := rfl
  have main := lp_cnt (f := F_m_image_B12 S9 o) (z := (S9, (0 : Int32))) (W := 64) (P := fun c s => s.1 = zI s.2 0 76 ∧ mx_wl (s_iz G A (s_i0 A) c) s.2 ∧ k_in S s.2) (Q := fun q => ∃ T, q = F_m_image_J2 S9 o (zI T 0 76) T ∧ mx_wl (s_iz G A (s_i0 A) 64) T ∧ k_in S T) (by decide) (fun c cI s hc hcI hP => by
    obtain ⟨u, T⟩ := s
    obtain ⟨t0, t1, t2⟩ := hP
    have t0 : u = zI T 0 76 := t0
    have t1 : mx_wl (s_iz G A (s_i0 A) c) T := t1
    have t2 : k_in S T := t2
    have rT := k_in.rm h hb t2
    have q0 : ¬ (64 : Int32) ≤ cI := fun z => by have := dk_gec z64 z; omega
    have cn : cI.toNatClampNeg = c := by rw [dk_clN]; omega
    have len := s_iz_l (A := A) (l := s_i0 A) ok.1.1.1 c (by omega)
    rcases mx_isCellOf (o := o) (a := cI) rT.1.1.1 ok.1.1.1 with ⟨e, hin⟩ | ⟨e, hin⟩
    rotate_left
    · rw [hcI] at hin
      exact ⟨(u, T), F_m_image_p18 q0 rfl e rfl, t0, by rw [s_iz_n hin]; exact t1, t2⟩
    rw [hcI] at hin
    have ne : ¬ F_m_isCellOf o T cI = (0 : Int32) := by rw [e]; decide +kernel
    obtain ⟨i31, i32, il, iu⟩ := rT.2.1.1 (c : Int) hin
    have adn : mx_ad 0 (c : Int) = c := by unfold mx_ad; omega
    rw [adn] at i31 i32
    have i31 : (T.2.1 31 cI.toNatClampNeg).toInt = mx_en (s_c A (c : Int)) := by rw [cn]; exact i31
    have i32 : (T.2.1 32 cI.toNatClampNeg).toInt = mx_cu (s_c A (c : Int)) := by rw [cn]; exact i32
    by_cases q1 : T.2.1 32 cI.toNatClampNeg = (1 : Int32)
    · have d1 := dk_eqc z1 q1
      rw [i32] at d1
      have v2 : s_c A (c : Int) = -2 := by
        unfold mx_cu at d1
        by_cases w : s_c A (c : Int) = -2
        · exact w
        · rw [if_neg w] at d1
          omega
      obtain ⟨T1, e1, w1, k1⟩ := mx_iput (o := o) t1 (by omega) a254
      refine ⟨(zI T1 0 76, T1), F_m_image_p20 q0 rfl ne rfl q1 e1.symm rfl rfl, rfl, ?_, t2.tr k1⟩
      rw [s_iz_y hin, v2]
      exact w1
    · have d1 := dk_neqc z1 q1
      rw [i32] at d1
      have v2 : s_c A (c : Int) ≠ -2 := fun z => d1 (by unfold mx_cu; rw [if_pos z])
      have hv : (T.2.1 31 cI.toNatClampNeg &&& 255).toInt = cx_en (s_c A (c : Int)) := by
        unfold mx_en at i31
        unfold cx_en
        by_cases w : s_c A (c : Int) = -1
        · rw [if_pos (by omega)] at i31
          have e9 : T.2.1 31 cI.toNatClampNeg = -1 := Int32.toInt_inj.mp (by rw [m1]; exact i31)
          rw [if_pos w, e9]
          exact am1
        · rw [if_neg (by omega)] at i31
          rw [if_neg w, if_neg v2]
          exact w_255s i31 (by omega)
      obtain ⟨T1, e1, w1, k1⟩ := mx_iput (o := o) t1 (by omega) hv
      refine ⟨(zI T1 0 76, T1), F_m_image_p19 q0 rfl ne rfl q1 rfl e1.symm rfl rfl, rfl, ?_, t2.tr k1⟩
      rw [s_iz_y hin]
      exact w1) (fun cI s hcI hP => by
    obtain ⟨u, T⟩ := s
    have t0 : u = zI T 0 76 := hP.1
    refine ⟨_, F_m_image_p17 (dk_gep z64 (by omega)), T, by rw [← t0], hP.2.1, hP.2.2⟩) ((65 - ((0 : Int32)).toInt).toNat + 1) 0 0 (y, S) (by rw [z0]; decide) (by decide) z0 ⟨hy, hl, kp.rf⟩
  exact main
/-- flags of a set of bits -/
theorem mx_imF {f9 : Int32 × Int32 × dg_S → (Int32 × Int32 × dg_S) ⊕ (dg_S × Int32)} {J : Int32 → dg_S → dg_S × Int32} {z : dg_S × Int32} {N q : Nat} {f : Nat → Int} {E : dg_S → Int32} (f0 : ∀ (x u : Int32) (T : dg_S), E T ≤ x → f9 (x, u, T) = .inr (J u T)) (f1 : ∀ (x u : Int32) (T : dg_S), ¬ E T ≤ x → F_m_has2 o T (T.2.1 q (0 : Int32).toNatClampNeg) x = (0 : Int32) → f9 (x, u, T) = .inl (x + 1, zI (F_m_writes o T 0) 0 76, F_m_writes o T 0)) (f2 : ∀ (x u : Int32) (T : dg_S), ¬ E T ≤ x → ¬ F_m_has2 o T (T.2.1 q (0 : Int32).toNatClampNeg) x = (0 : Int32) → f9 (x, u, T) = .inl (x + 1, zI (F_m_writes o T 1) 0 76, F_m_writes o T 1)) (hq : q ≠ 50) (hE : ∀ T, k_in S T → (E T).toInt = n) (hN : n + 1 ≤ N) (hn : n ≤ 6) (h : mx_wl l S) (hy : y = zI S 0 76) (hl : l.length + n ≤ 124) (hr : 0 ≤ (S.2.1 q (0 : Int32).toNatClampNeg).toInt ∧ (S.2.1 q (0 : Int32).toNatClampNeg).toInt < 64) (hf : ∀ i, i < n → f i = mx_bit (S.2.1 q (0 : Int32).toNatClampNeg).toInt i) : ∃ T, lp f9 z N ((0 : Int32), y, S) = J (zI T 0 76) T ∧ mx_wl (s_sg f l n) T ∧ k_in S T := by
  have z0 : (0 : Int32).toInt = 0 := by decide +kernel
  have a0 : ((0 : Int32) &&& 255).toInt = 0 := by decide +kernel
  have a1' : ((1 : Int32) &&& 255).toInt = 1 := by decide +kernel
  refine lp_cnt (f := f9) (z := z) (W := n) (P := fun i s => s.1 = zI s.2 0 76 ∧ mx_wl (s_sg f l i) s.2 ∧ k_in S s.2) (Q := fun q => ∃ T, q = J (zI T 0 76) T ∧ mx_wl (s_sg f l n) T ∧ k_in S T) (by omega) (fun i iI s hi hiI hP => ?_) (fun iI s hiI hP => ?_) N 0 0 (y, S) (by omega) (by omega) z0 ⟨hy, h, kp.rf⟩
  · obtain ⟨u, T⟩ := s
    obtain ⟨t0, t1, t2⟩ := hP
    have t1 : mx_wl (s_sg f l i) T := t1
    have t2 : k_in S T := t2
    have q0 : ¬ E T ≤ iI := fun z => by have := w_le.mp z; have := hE T t2; omega
    have rq : T.2.1 q = S.2.1 q := (t2.2 q hq).1
    have hb := hf i hi
    rcases mx_has2 (o := o) (S := T) (a := T.2.1 q (0 : Int32).toNatClampNeg) (b := iI) (by rw [rq]; exact hr) (by omega) with ⟨e, w⟩ | ⟨e, w⟩
    · rw [rq, hiI, show ((i : Int)).toNat = i by omega, ← hb] at w
      obtain ⟨T1, e1, w1, k1⟩ := mx_iput (o := o) t1 (by rw [s_sg_l]; omega) a1'
      refine ⟨(zI T1 0 76, T1), by rw [f2 iI u T q0 (by rw [e]; decide +kernel), e1], rfl, ?_, t2.tr k1⟩
      show mx_wl (s_sg f l i ++ [f i]) T1
      rw [w]
      exact w1
    · rw [rq, hiI, show ((i : Int)).toNat = i by omega, ← hb] at w
      obtain ⟨T1, e1, w1, k1⟩ := mx_iput (o := o) t1 (by rw [s_sg_l]; omega) a0
      refine ⟨(zI T1 0 76, T1), by rw [f1 iI u T q0 e, e1], rfl, ?_, t2.tr k1⟩
      show mx_wl (s_sg f l i ++ [f i]) T1
      rw [w]
      exact w1
  · obtain ⟨u, T⟩ := s
    have t0 : u = zI T 0 76 := hP.1
    exact ⟨_, f0 iI u T (w_le.mpr (by have := hE T hP.2.2; omega)), T, by rw [← t0], hP.2.1, hP.2.2⟩
/-- the plan -/
theorem mx_imP (ok : s_ok G K A U) (h : RM G K A L U x S) (hl : mx_wl l S) (hl9 : l.length ≤ 60) (hy : y = zI S 0 76) {S9 : dg_S} (h13 : zI S9 0 13 = zI S 0 13) : ∃ T, lp (F_m_image_B10 S9 o) (S9, (0 : Int32)) ((17 - ((0 : Int32)).toInt).toNat + 1) ((0 : Int32), y, S) = F_m_image_J4 S9 o (zI T 0 76) T ∧ mx_wl (s_pl A l (G 0 6).toNat) T ∧ k_in S T := by
  have z0 : (0 : Int32).toInt = 0 := by decide +kernel
  have hb := ok.1.1.2.2.2
  have h6 := ok.1.1.2.2
  have w3 := ok.2.2.1.1.2.2.2.1
  have main := lp_cnt (f := F_m_image_B10 S9 o) (z := (S9, (0 : Int32))) (W := (G 0 6).toNat) (P := fun k s => s.1 = zI s.2 0 76 ∧ mx_wl (s_pl A l k) s.2 ∧ k_in S s.2) (Q := fun q => ∃ T, q = F_m_image_J4 S9 o (zI T 0 76) T ∧ mx_wl (s_pl A l (G 0 6).toNat) T ∧ k_in S T) (by omega) (fun k kI s hk hkI hP => by
    obtain ⟨u, T⟩ := s
    obtain ⟨t0, t1, t2⟩ := hP
    have t1 : mx_wl (s_pl A l k) T := t1
    have t2 : k_in S T := t2
    have rT := k_in.rm h hb t2
    have kn : kI.toNatClampNeg = k := by rw [dk_clN]; omega
    have f9 : (T.2.1 9 (zI S9 0 13).toNatClampNeg).toInt = G 0 6 := by
      rw [h13, ← t2.I (a := 0) (b := 13) (by omega)]
      exact rT.1.1.1.2.2.2.2
    obtain ⟨wm, wc⟩ := w3 k (by omega)
    have wc0 := wc.1
    obtain ⟨mm, mc⟩ := rT.2.1.2.2.2.2.1 k (by omega)
    rw [show 16 * 0 + k = k by omega] at mm mc
    have mm : (T.2.1 35 kI.toNatClampNeg).toInt = A 3 k := by rw [kn]; exact mm
    have mc : (T.2.1 36 kI.toNatClampNeg).toInt = A 4 k := by rw [kn]; exact mc
    have len := s_pl_l (A := A) (l := l) k
    have la : (s_pl A l k ++ [A 3 k]).length = (s_pl A l k).length + 1 := by rw [List.length_append]; rfl
    have lb : ((s_pl A l k ++ [A 3 k]) ++ [A 4 k % 8]).length = (s_pl A l k).length + 2 := by rw [List.length_append, la]; rfl
    obtain ⟨T1, u1, u2, u3⟩ := mx_iput (o := o) t1 (by omega) (w_255s mm (by omega))
    have mc1 : (T1.2.1 36 kI.toNatClampNeg).toInt = A 4 k := by rw [(u3.2 36 (by decide)).1]; exact mc
    have pc : F_m_partOf o T1 (T1.2.1 36 kI.toNatClampNeg) (0 : Int32) = T1.2.1 36 kI.toNatClampNeg - T1.2.1 36 kI.toNatClampNeg / (8 : Int32) * (8 : Int32) := F_m_partOf_p1 rfl rfl
    obtain ⟨T2, x1, x2, x3⟩ := mx_iput (o := o) (a1 := F_m_partOf o T1 (T1.2.1 36 kI.toNatClampNeg) (0 : Int32)) (v := A 4 k % 8) u2 (by omega) (w_255s (by rw [pc, dk_remL (b := 8) (by omega) (by decide +kernel) (by decide), mc1]) (by omega))
    have pr : F_m_partOf o T2 (T1.2.1 36 kI.toNatClampNeg) (1 : Int32) = T1.2.1 36 kI.toNatClampNeg / (8 : Int32) := F_m_partOf_p0 (by decide +kernel) rfl
    obtain ⟨T3, y1, y2, y3⟩ := mx_iput (o := o) (a1 := F_m_partOf o T2 (T1.2.1 36 kI.toNatClampNeg) (1 : Int32)) (v := A 4 k / 8) x2 (by omega) (w_255s (by rw [pr, dk_divL (b := 8) (by omega) (by decide +kernel) (by decide), mc1]) (by omega))
    exact ⟨(zI T3 0 76, T3), F_m_image_p11 rfl rfl (fun z => by have := w_le.mp z; rw [f9] at this; omega) rfl u1.symm rfl rfl x1.symm rfl y1.symm rfl rfl, rfl, y2, ((t2.tr u3).tr x3).tr y3⟩) (fun kI s hkI hP => by
    obtain ⟨u, T⟩ := s
    have t0 : u = zI T 0 76 := hP.1
    have t2 : k_in S T := hP.2.2
    have rT := k_in.rm h hb t2
    have f9 : (T.2.1 9 (zI S9 0 13).toNatClampNeg).toInt = G 0 6 := by
      rw [h13, ← t2.I (a := 0) (b := 13) (by omega)]
      exact rT.1.1.1.2.2.2.2
    exact ⟨_, F_m_image_p10 rfl rfl (w_le.mpr (by rw [f9]; omega)), T, by rw [← t0], hP.2.1, hP.2.2⟩) ((17 - ((0 : Int32)).toInt).toNat + 1) 0 0 (y, S) (by rw [z0]; omega) (by omega) z0 ⟨hy, hl, kp.rf⟩
  exact main
/-- tubs, and the check -/
theorem mx_imT {f : Nat → Int} (h37 : ∀ k, k < 10 → (S.2.1 37 k).toInt = f k ∧ 0 ≤ f k ∧ f k ≤ 255) (hl : mx_wl l S) (hl9 : l.length ≤ 113) (hy : y = zI S 0 76) {S9 : dg_S} : ∃ (T : dg_S), F_m_image_J5 o S9 y S = (T, zI T 0 76) ∧ mx_wl (s_sg f l 10 ++ [s_cn (s_sg f l 10) (l.length + 10)]) T ∧ k_in S T := by
  have z0 : (0 : Int32).toInt = 0 := by decide +kernel
  have z5 : (5 : Int32).toInt = 5 := by decide +kernel
  have z10 : (10 : Int32).toInt = 10 := by decide +kernel
  have z233 : (233 : Int32).toInt = 233 := by decide +kernel
  have z251 : (251 : Int32).toInt = 251 := by decide +kernel
  rw [F_m_image_p5]
  have first := lp_cnt (f := F_m_image_B8 o S9) (z := (S9, (0 : Int32))) (W := 10) (P := fun k s => s.1 = zI s.2 0 76 ∧ mx_wl (s_sg f l k) s.2 ∧ k_in S s.2) (Q := fun q => ∃ T, q = F_m_image_J6 (zI T 0 76) o T S9 ∧ mx_wl (s_sg f l 10) T ∧ k_in S T) (by decide) (fun k kI s hk hkI hP => by
    obtain ⟨u, T⟩ := s
    obtain ⟨t0, t1, t2⟩ := hP
    have t1 : mx_wl (s_sg f l k) T := t1
    have t2 : k_in S T := t2
    have kn : kI.toNatClampNeg = k := by rw [dk_clN]; omega
    obtain ⟨e6, h6⟩ := h37 k hk
    have e6 : (T.2.1 37 kI.toNatClampNeg).toInt = f k := by rw [kn, (t2.2 37 (by decide)).1]; exact e6
    obtain ⟨T1, e1, w1, k1⟩ := mx_iput (o := o) t1 (by rw [s_sg_l]; omega) (w_255s e6 (by omega))
    exact ⟨(zI T1 0 76, T1), F_m_image_p4 (fun z => by have := dk_gec z10 z; omega) rfl e1.symm rfl rfl, rfl, w1, t2.tr k1⟩) (fun kI s hkI hP => by
    obtain ⟨u, T⟩ := s
    have t0 : u = zI T 0 76 := hP.1
    exact ⟨_, F_m_image_p3 (dk_gep z10 (by omega)), T, by rw [← t0], hP.2.1, hP.2.2⟩) ((11 - ((0 : Int32)).toInt).toNat + 1) 0 0 (y, S) (by rw [z0]; decide) (by decide) z0 ⟨hy, hl, kp.rf⟩
  obtain ⟨T, eT, lT, kT⟩ := first
  obtain ⟨l2, hl2⟩ : ∃ l2, l2 = s_sg f l 10 := ⟨_, rfl⟩
  have len : l2.length = l.length + 10 := by rw [hl2, s_sg_l]
  rw [← hl2] at lT ⊢
  rw [eT, F_m_image_p2]
  have hlen : (zI T 0 76).toInt = l2.length := lT.1.1
  have main := lp_cnt (f := F_m_image_B7 (zI T 0 76) o T) (z := (S9, (0 : Int32))) (W := l2.length) (P := fun i u => u.toInt = s_cn l2 i) (Q := fun q => ∃ u : Int32, u.toInt = s_cn l2 l2.length ∧ q = (F_m_writes o T u, zI (F_m_writes o T u) 0 76)) (by omega) (fun i iI u hi hiI hP => by
    have hP : u.toInt = s_cn l2 i := hP
    have cb := s_cn_b (l := l2) i
    have iN : iI.toNatClampNeg = i := by rw [dk_clN]; omega
    have ev : (T.2.1 50 iI.toNatClampNeg).toInt = l2.getD i 0 := by rw [iN]; exact (lT.2 i hi).1
    have bb := (lT.2 i hi).2
    have e5 : ((5 : Int32) * u).toInt = 5 * s_cn l2 i := dk_mulT z5 hP (by omega) (by omega)
    have es : ((5 : Int32) * u + T.2.1 50 iI.toNatClampNeg).toInt = 5 * s_cn l2 i + l2.getD i 0 := dk_addT e5 ev (by omega) (by omega)
    refine ⟨_, F_m_image_p1 (fun z => by have := w_le.mp z; omega) rfl rfl rfl rfl rfl, ?_⟩
    show _ = (5 * s_cn l2 i + l2.getD i 0) % 251
    rw [dk_remL (by omega) z251 (by decide), es]) (fun iI u hiI hP => ⟨_, F_m_image_p0 (w_le.mpr (by omega)) rfl rfl, u, hP, rfl⟩) ((151 - ((0 : Int32)).toInt).toNat + 1) 0 0 (233 : Int32) (by rw [z0]; omega) (by omega) z0 z233
  obtain ⟨u, hu, eu⟩ := main
  have cb := s_cn_b (l := l2) l2.length
  obtain ⟨T1, e1, w1, k1⟩ := mx_iput (o := o) (a1 := u) (v := s_cn l2 l2.length) lT (by omega) (w_255s hu (by omega))
  rw [eu, e1, ← len]
  exact ⟨T1, rfl, w1, kT.tr k1⟩
end EQ
end
section
/-! IMAGE of the reference, whole; both sides; OCTET -/
section ER
variable {o oX oM g n p k i : Nat} {G A A' : aR} {K : Nat → List Int} {L L' : s_L} {U : s_U} {F : s_F} {l : List Int} {S S0 S1 SX SM T : dg_S} {x x' r c v t : Int} {a a1 a2 a3 a4 y : Int32}
theorem mx_image (ok : s_ok G K A U) (h : RM G K A L U x S) : ∃ (S1 : dg_S) (y : Int32), F_m_image o S = (S1, y) ∧ y.toInt = ((s_im G A).length : Int) ∧ mx_wl (s_im G A) S1 ∧ RM G K A L U x S1 ∧ k_in S S1 := by
  have z0 : (0 : Int32).toInt = 0 := by decide +kernel
  have n0 : (0 : Int32).toNatClampNeg = 0 := by decide +kernel
  have s8 : (((8 : Int32) &&& 31).toBitVec.smod 32).toNat = 8 := by decide +kernel
  have s16 : (((16 : Int32) &&& 31).toBitVec.smod 32).toNat = 16 := by decide +kernel
  have hb := ok.1.1.2.2.2
  have h5 := ok.1.2.2.2.1
  have h6 := ok.1.1.2.2
  have h7 := ok.1.2.2.2.2.1
  obtain ⟨w0, w1, w2, w3, w5, w6⟩ := ok.2.2.1.1
  obtain ⟨S2, e2⟩ : ∃ X, X = dg_uF S 0 76 (.int (0 : Int32)) := ⟨_, rfl⟩
  have k2 : k_in S S2 := by
    rw [e2]
    exact kp.uF kp.rf ⟨rfl, rfl⟩
  have l2 : mx_wl [] S2 := ⟨⟨by rw [e2, w_I, if_pos ⟨rfl, rfl⟩]; exact z0, by decide⟩, fun i hi => absurd hi (Nat.not_lt_zero i)⟩
  have p0 : (S2.2.1 29 (0 : Int32).toNatClampNeg).toInt = A 0 0 := by rw [n0, (k2.2 29 (by decide)).1]; exact h.2.1.2.1
  obtain ⟨v0, hv0⟩ : ∃ v : Nat, A 0 0 = v := ⟨(A 0 0).toNat, by omega⟩
  obtain ⟨v1, hv1⟩ : ∃ v : Nat, A 0 1 = v := ⟨(A 0 1).toNat, by omega⟩
  have b31 : ∀ v : Nat, v ≤ 99999 → v < 2 ^ 31 := fun v hv => Nat.lt_of_le_of_lt hv (by decide)
  have f8 : (2 : Nat) ^ 8 = 256 := by decide
  have f16 : (2 : Nat) ^ 16 = 65536 := by decide
  have b1 : (S2.2.1 29 (0 : Int32).toNatClampNeg >>> ((8 : Int32) &&& 31)).toInt = A 0 0 / 256 := by rw [w_shk (p0.trans hv0) (b31 _ (by omega)) s8, f8, hv0]; omega
  obtain ⟨S7, e7, l7, k7⟩ := mx_iput (o := o) l2 (by decide) (w_255s b1 (by omega))
  obtain ⟨S12, e12, l12, k12⟩ := mx_iput (o := o) (a1 := S2.2.1 29 (0 : Int32).toNatClampNeg) (v := A 0 0 % 256) l7 (by show 1 < 124; decide) (by rw [w_255 (by omega), p0])
  have t12 : k_in S S12 := (k2.tr k7).tr k12
  have p1 : (S12.2.1 30 (0 : Int32).toNatClampNeg).toInt = A 0 1 := by rw [n0, (t12.2 30 (by decide)).1]; exact h.2.1.2.2.1
  obtain ⟨x15, h15⟩ : ∃ u : Int32, u = S12.2.1 30 (0 : Int32).toNatClampNeg := ⟨_, rfl⟩
  rw [← h15] at p1
  have c1 : (x15 >>> ((16 : Int32) &&& 31)).toInt = A 0 1 / 65536 := by rw [w_shk (p1.trans hv1) (b31 _ (by omega)) s16, f16, hv1]; omega
  have c2 : (x15 >>> ((8 : Int32) &&& 31)).toInt = A 0 1 / 256 := by rw [w_shk (p1.trans hv1) (b31 _ (by omega)) s8, f8, hv1]; omega
  obtain ⟨S17, e17, l17, k17⟩ := mx_iput (o := o) l12 (by show 2 < 124; decide) (w_255s c1 (by omega))
  obtain ⟨S22, e22, l22, k22⟩ := mx_iput (o := o) (a1 := x15 >>> ((8 : Int32) &&& 31)) (v := A 0 1 / 256 % 256) l17 (by show 3 < 124; decide) (by rw [w_255 (by omega), c2])
  obtain ⟨S26, e26, l26, k26⟩ := mx_iput (o := o) (a1 := x15) (v := A 0 1 % 256) l22 (by show 4 < 124; decide) (by rw [w_255 (by omega), p1])
  have l26 : mx_wl (s_i0 A) S26 := l26
  have t26 : k_in S S26 := ((t12.tr k17).tr k22).tr k26
  have hl1 := s_i1_l (A := A) ok.1
  have hl2 := s_i2_l (A := A) ok.1
  have len64 := s_iz_l (A := A) (l := s_i0 A) ok.1.1.1 64 (Nat.le_refl 64)
  have el : (s_i0 A).length = 5 := rfl
  obtain ⟨T1, g1, g2, g3⟩ := mx_imC (o := o) (S9 := S) ok (k_in.rm h hb t26) l26 rfl
  have t1 : k_in S T1 := t26.tr g3
  have r1 := k_in.rm h hb t1
  have b33 : 0 ≤ (T1.2.1 33 (0 : Int32).toNatClampNeg).toInt ∧ (T1.2.1 33 (0 : Int32).toNatClampNeg).toInt < 64 := by rw [n0]; exact r1.2.1.2.2.2.1.1
  obtain ⟨T2, x1, x2, x3⟩ := mx_imF (o := o) (f9 := F_m_image_B11 S o) (J := fun u T => F_m_image_J3 S o u T) (z := (S, (0 : Int32))) (N := (7 - ((0 : Int32)).toInt).toNat + 1) (q := 33) (n := (G 0 5).toNat) (f := fun k => A 2 k) (E := fun T => T.2.1 8 (zI S 0 13).toNatClampNeg) (fun x u T h => F_m_image_p13 rfl rfl h) (fun x u T h1 h2 => F_m_image_p14 rfl rfl h1 rfl rfl h2 rfl rfl rfl) (fun x u T h1 h2 => F_m_image_p15 rfl rfl h1 rfl rfl h2 rfl rfl rfl) (by decide) (fun T t => by
    rw [(t.2 8 (by decide)).1, (t1.2 8 (by decide)).1, h.1.2.1.2.2.1]
    omega) (by rw [z0]; omega) (by omega) g2 rfl (by omega) b33 (fun i hi => by rw [n0]; exact r1.2.1.2.2.2.1.2 i (by omega))
  have x2 : mx_wl (s_i1 G A) T2 := x2
  have t2 : k_in S T2 := t1.tr x3
  have r2 := k_in.rm h hb t2
  have e13 : zI S 0 13 = zI T2 0 13 := (t2.I (by decide)).symm
  obtain ⟨T3, y1, y2, y3⟩ := mx_imP (o := o) (S9 := S) ok r2 x2 (by omega) rfl e13
  have t3 : k_in S T3 := t2.tr y3
  have r3 := k_in.rm h hb t3
  have lp3 := s_pl_l (A := A) (l := s_i1 G A) (G 0 6).toNat
  have b34 : 0 ≤ (T3.2.1 34 (0 : Int32).toNatClampNeg).toInt ∧ (T3.2.1 34 (0 : Int32).toNatClampNeg).toInt < 64 := by rw [n0]; exact r3.2.1.2.2.2.2.2.1.1
  obtain ⟨T4, u1, u2, u3⟩ := mx_imF (o := o) (f9 := F_m_image_B9 S o) (J := fun u T => F_m_image_J5 o S u T) (z := (S, (0 : Int32))) (N := (6 - ((0 : Int32)).toInt).toNat + 1) (q := 34) (n := (G 0 7).toNat) (f := fun k => A 5 k) (E := fun T => T.2.1 12 (zI S 0 13).toNatClampNeg) (fun x u T h => F_m_image_p6 rfl rfl h) (fun x u T h1 h2 => F_m_image_p7 rfl rfl h1 rfl rfl h2 rfl rfl rfl) (fun x u T h1 h2 => F_m_image_p8 rfl rfl h1 rfl rfl h2 rfl rfl rfl) (by decide) (fun T t => by
    rw [(t.2 12 (by decide)).1, (t3.2 12 (by decide)).1, h.1.2.1.2.2.2]
    omega) (by rw [z0]; omega) (by omega) y2 rfl (by omega) b34 (fun i hi => by rw [n0]; exact r3.2.1.2.2.2.2.2.1.2 i (by omega))
  have t4 : k_in S T4 := t3.tr u3
  have r4 := k_in.rm h hb t4
  have ls := s_sg_l (f := fun k => A 5 k) (l := s_pl A (s_i1 G A) (G 0 6).toNat) (G 0 7).toNat
  have l2e : (s_i2 G A).length = (s_sg (fun k => A 5 k) (s_pl A (s_i1 G A) (G 0 6).toNat) (G 0 7).toNat).length + 10 := s_sg_l 10
  obtain ⟨T5, v1', v2', v3'⟩ := mx_imT (o := o) (S9 := S) (f := fun k => A 6 k) (fun k hk => by
    have := w6 k hk
    have e6 := r4.2.1.2.2.2.2.2.2.1 k hk
    rw [show 10 * 0 + k = k by omega] at e6
    exact ⟨e6, by show 0 ≤ A 6 k; omega, by show A 6 k ≤ 255; omega⟩) u2 (by omega) rfl
  rw [← l2e] at v2'
  have v2' : mx_wl (s_im G A) T5 := v2'
  have t5 : k_in S T5 := t4.tr v3'
  refine ⟨T5, zI T5 0 76, ?_, v2'.1.1, v2', k_in.rm h hb t5, t5⟩
  rw [F_m_image_p22 e2 rfl rfl e7.symm e12.symm h15 rfl e17.symm, F_m_image_p21 rfl e22.symm e26.symm rfl, g1, F_m_image_p16, x1]
  show F_m_image_J3 S o (zI T2 0 76) T2 = _
  rw [F_m_image_p12, y1, F_m_image_p9, u1]
  exact v1'
/-- IMAGE on both sides -/
theorem sim_image (ok : s_ok G K A U) (hX : RX oX g G K A L U x SX) (hM : RM G K A L U x SM) : (F_d_image oX SX).2 = (F_m_image oM SM).2 ∧ RX oX g G K A L U x (F_d_image oX SX).1 ∧ RM G K A L U x (F_m_image oM SM).1 ∧ k_im SX (F_d_image oX SX).1 ∧ k_in SM (F_m_image oM SM).1 ∧ ∃ l, cx_wl l (F_d_image oX SX).1 ∧ mx_wl l (F_m_image oM SM).1 := by
  obtain ⟨S1, y1, e1, v1, l1, r1, k1⟩ := cx_image (o := oX) ok hX
  obtain ⟨S2, y2, e2, v2, l2, r2, k2⟩ := mx_image (o := oM) ok hM
  rw [e1, e2]
  exact ⟨Int32.toInt_inj.mp (v1.trans v2.symm), r1, r2, k1, k2, _, l1, l2⟩
/-- OCTET on both sides: what was written is alike -/
theorem sim_octet (h1 : (zI SX 182 1).toInt = n) (h2 : (zI SM 0 76).toInt = n) (hn : n ≤ 200) (he : ∀ i, i < n → SX.2.1 183 i = SM.2.1 50 i) : F_d_octet oX SX a1 = F_m_octet oM SM a1 := by
  have z0 : (0 : Int32).toInt = 0 := by decide +kernel
  have e1 : (zI SM 0 76 - (1 : Int32)).toInt = (n : Int) - 1 := dk_subT h2 (by decide +kernel) (by omega) (by omega)
  have hi := mx_is (o := oM) (S := SM) (a := a1) (b := 0) (c := zI SM 0 76 - (1 : Int32))
  rw [e1, z0] at hi
  by_cases q1 : a1 < (0 : Int32)
  · have d1 := dk_ltc z0 q1
    rcases hi with ⟨-, w⟩ | ⟨e, -⟩
    · omega
    · rw [F_d_octet_p0 q1, F_m_octet_p0 rfl rfl rfl e]
  have d1 := dk_nltc z0 q1
  by_cases q2 : zI SX 182 1 ≤ a1
  · have d2 := w_le.mp q2
    rcases hi with ⟨-, w⟩ | ⟨e, -⟩
    · omega
    · rw [F_d_octet_p1 q1 rfl q2, F_m_octet_p0 rfl rfl rfl e]
  · have d2 : ¬ (zI SX 182 1).toInt ≤ a1.toInt := fun z => q2 (w_le.mpr z)
    rcases hi with ⟨e, -⟩ | ⟨-, w⟩
    · rw [F_d_octet_p2 q1 rfl q2 rfl, F_m_octet_p1 rfl rfl rfl (by rw [e]; decide +kernel) rfl]
      exact he _ (by rw [dk_clN]; omega)
    · omega
end ER
end
section
/-! no seam: all calls but HAS, IMAGE -/
def cx_0 (o g : Nat) (x : Int) (S : dg_S) : Prop := zR o S 0 6 = g ∧ (zI S g 0 = 0 ∧ zI S g 1 = 0 ∧ zI S g 6 = 0 ∧ zI S g 8 = 0 ∧ zI S g 11 = 0) ∧ (zI S 3 0 = 0 ∧ zI S 3 1 = 0 ∧ (∀ k, S.2.1 4 k = 100 ∨ S.2.1 4 k = 0) ∧ ∀ k, S.2.1 9 k = 0) ∧ (zI S 17 1 = 0 ∧ zI S 17 2 = 0) ∧ (zI S 0 12).toInt = x
def mx_0 (x : Int) (S : dg_S) : Prop := zI S 0 47 = 0 ∧ (S.2.1 2 (zI S 0 13).toNatClampNeg = 0 ∧ S.2.1 3 (zI S 0 13).toNatClampNeg = 0 ∧ S.2.1 8 (zI S 0 13).toNatClampNeg = 0 ∧ S.2.1 9 (zI S 0 13).toNatClampNeg = 0 ∧ S.2.1 12 (zI S 0 13).toNatClampNeg = 0) ∧ (S.2.1 29 0 = 0 ∧ S.2.1 30 0 = 0 ∧ S.2.1 33 0 = 0 ∧ S.2.1 38 0 = 0 ∧ ∀ k, S.2.1 37 k = 0) ∧ zI S 0 61 = 0 ∧ (zL S 0 62).toInt = x
section FA
variable {o oX oM g n p k i : Nat} {B : Nat → Int} {S S0 S1 SX SM T : dg_S} {x x' c v : Int} {a a1 a2 a3 a4 y : Int32}
theorem cx_0.seam (h : cx_0 o g x S) : F_g_hasSeam o S g = 0 := F_g_hasSeam_p0 rfl (by rw [h.2.1.1]; decide +kernel)
theorem cx_0.come (h : cx_0 o g x S) : F_d_shiftsCome o S a1 a2 a3 = 0 := F_d_shiftsCome_p0 h.1.symm rfl h.seam
theorem w_0le (h : ¬ a < (0 : Int32)) : (0 : Int32) ≤ a := w_le.mpr (by have := dk_nltc (k := 0) (by decide +kernel) h; rw [show (0 : Int32).toInt = 0 by decide +kernel]; omega)
theorem cx_0.place (h : cx_0 o g x S) : F_g_placeOf o S g a1 a2 = -1 := by
  by_cases q : a1 < (0 : Int32)
  · exact F_g_placeOf_p0 q
  · exact F_g_placeOf_p1 rfl q (by rw [h.2.1.1]; exact w_0le q)
theorem cx_0.miner (h : cx_0 o g x S) : F_g_hasMiner o S g a1 = 0 := by
  by_cases q : a1 < (0 : Int32)
  · exact F_g_hasMiner_p0 q
  · exact F_g_hasMiner_p1 rfl q (by rw [h.2.1.2.2.1]; exact w_0le q)
theorem cx_0.row (h : cx_0 o g x S) : F_g_hasPlanRow o S g a1 = 0 := by
  by_cases q : a1 < (0 : Int32)
  · exact F_g_hasPlanRow_p0 q
  · exact F_g_hasPlanRow_p1 rfl q (by rw [h.2.1.2.2.2.1]; exact w_0le q)
theorem cx_0.order (h : cx_0 o g x S) : F_g_hasOrder o S g a1 = 0 := by
  by_cases q : a1 < (0 : Int32)
  · exact F_g_hasOrder_p0 q
  · exact F_g_hasOrder_p1 rfl q (by rw [h.2.1.2.2.2.2]; exact w_0le q)
theorem mx_0.cell (h : mx_0 x S) : F_m_isCell o S a1 a2 = 0 := F_m_isCell_p0 rfl h.1
theorem mx_0.ahead (h : mx_0 x S) : F_m_isAhead o S a1 a2 a3 = 0 := F_m_isAhead_p0 rfl h.1
theorem mx_0.miner (h : mx_0 x S) : F_m_isMiner o S a1 = 0 := by
  by_cases q : a1 < (0 : Int32)
  · exact F_m_isMiner_p0 q
  · exact F_m_isMiner_p1 q rfl rfl (by rw [h.2.1.2.2.1]; exact w_0le q)
theorem mx_0.order (h : mx_0 x S) : F_m_isOrder o S a1 = 0 := by
  by_cases q : a1 < (0 : Int32)
  · exact F_m_isOrder_p0 q
  · exact F_m_isOrder_p1 q rfl rfl (by rw [h.2.1.2.2.2.2]; exact w_0le q)
theorem mx_0.row (h : mx_0 x S) : F_m_is o S a1 0 (S.2.1 9 (zI S 0 13).toNatClampNeg - (1 : Int32)) = 0 := by
  rw [h.2.1.2.2.2.1]
  rcases mx_is (o := o) (S := S) (a := a1) (b := 0) (c := (0 : Int32) - (1 : Int32)) with ⟨-, w1, w2⟩ | ⟨e, -⟩
  · exfalso
    have e1 : ((0 : Int32) - (1 : Int32)).toInt = -1 := by decide +kernel
    rw [e1] at w2
    rw [show (0 : Int32).toInt = 0 by decide +kernel] at w1
    omega
  · exact e
theorem sim0_letter (hX : cx_0 oX g x SX) (hM : mx_0 x SM) : F_d_letter oX SX a1 a2 a3 = -1 ∧ F_m_letter oM SM a1 a2 a3 = -1 := by
  by_cases q0 : a1 = (0 : Int32)
  · refine ⟨?_, F_m_letter_p8 q0 rfl hM.miner⟩
    by_cases q : a2 < (0 : Int32)
    · exact F_d_letter_p4 q0 q
    · exact F_d_letter_p5 q0 q hX.1.symm rfl (by rw [hX.2.1.2.2.1]; exact w_0le q)
  · by_cases q1 : a1 = (1 : Int32)
    · refine ⟨?_, F_m_letter_p1 q0 q1 rfl hM.order⟩
      by_cases q : a2 < (0 : Int32)
      · exact F_d_letter_p1 q0 q1 q
      · exact F_d_letter_p2 q0 q1 q hX.1.symm rfl (by rw [hX.2.1.2.2.2.2]; exact w_0le q)
    · exact ⟨F_d_letter_p0 q0 q1, F_m_letter_p0 q0 q1⟩
theorem sim0_cell (hX : cx_0 oX g x SX) (hM : mx_0 x SM) : F_d_cell oX SX a1 a2 a3 = (SX, -1) ∧ F_m_cell oM SM a1 a2 a3 = (SM, -1) := ⟨F_d_cell_p8 hX.1.symm rfl hX.place, F_m_cell_p13 rfl hM.cell⟩
theorem sim0_hurt (hX : cx_0 oX g x SX) (hM : mx_0 x SM) : F_d_hurt oX SX a1 = -1 ∧ F_m_hurt oM SM a1 = -1 := ⟨F_d_hurt_p0 hX.1.symm rfl hX.miner, F_m_hurt_p0 rfl hM.miner⟩
theorem sim0_plan (hX : cx_0 oX g x SX) (hM : mx_0 x SM) : F_d_plan oX SX a1 a2 = -1 ∧ F_m_plan oM SM a1 a2 = -1 := ⟨F_d_plan_p4 hX.1.symm rfl hX.row, F_m_plan_p0 rfl rfl rfl rfl hM.row⟩
theorem sim0_order (hX : cx_0 oX g x SX) (hM : mx_0 x SM) : F_d_order oX SX a1 a2 = -1 ∧ F_m_order oM SM a1 a2 = -1 := ⟨F_d_order_p6 hX.1.symm rfl hX.order, F_m_order_p8 rfl hM.order⟩
theorem sim0_tubs (hX : cx_0 oX g x SX) (hM : mx_0 x SM) : F_d_tubs oX SX a1 = F_m_tubs oM SM a1 := by
  have z0 : (0 : Int32).toInt = 0 := by decide +kernel
  have z9 : (9 : Int32).toInt = 9 := by decide +kernel
  have hj := mx_is (o := oM) (S := SM) (a := a1) (b := 0) (c := 9)
  rw [z0, z9] at hj
  by_cases q1 : a1 < (0 : Int32)
  · have := dk_ltc z0 q1
    rcases hj with ⟨-, e⟩ | ⟨e, -⟩
    · omega
    · rw [F_d_tubs_p0 q1, F_m_tubs_p0 rfl e]
  have d1 := dk_nltc z0 q1
  by_cases q2 : (9 : Int32) < a1
  · have := dk_gtc z9 q2
    rcases hj with ⟨-, e⟩ | ⟨e, -⟩
    · omega
    · rw [F_d_tubs_p1 q1 q2, F_m_tubs_p0 rfl e]
  · have d2 : ¬ (9 : Int32).toInt < a1.toInt := fun z => q2 (w_lt.mpr z)
    rw [z9] at d2
    rcases hj with ⟨e, -⟩ | ⟨-, e⟩
    · rw [F_d_tubs_p2 q1 q2 rfl, F_m_tubs_p1 rfl (by rw [e]; decide +kernel) rfl, hX.2.2.1.2.2.2, hM.2.2.1.2.2.2.2]
    · omega
theorem sim0_later (hX : cx_0 oX g x SX) (hM : mx_0 x SM) : F_d_later oX SX a1 a2 a3 = (SX, -1) ∧ F_m_later oM SM a1 a2 a3 = (SM, -1) := ⟨F_d_later_p0 hX.1.symm rfl hX.place, F_m_later_p0 rfl hM.cell⟩
theorem sim0_opens (hX : cx_0 oX g x SX) (hM : mx_0 x SM) : F_d_opens oX SX a1 a2 = (SX, -1) ∧ F_m_opens oM SM a1 a2 = (SM, -1) := ⟨F_d_opens_p4 hX.1.symm rfl hX.place, F_m_opens_p4 rfl hM.cell⟩
theorem sim0_worth (hX : cx_0 oX g x SX) (hM : mx_0 x SM) : F_d_worth oX SX a1 = (SX, -1) ∧ F_m_worth oM SM a1 = (SM, -1) := ⟨F_d_worth_p1 rfl hX.come, F_m_worth_p1 rfl hM.ahead⟩
theorem sim0_shade (hX : cx_0 oX g x SX) (hM : mx_0 x SM) : F_d_shade oX SX a1 a2 = (SX, -1) ∧ F_m_shade oM SM a1 a2 = (SM, -1) := ⟨F_d_shade_p5 rfl hX.come, F_m_shade_p0 rfl hM.ahead⟩
theorem sim0_change (hX : cx_0 oX g x SX) (hM : mx_0 x SM) : F_d_change oX SX a1 a2 = (SX, -1) ∧ F_m_change oM SM a1 a2 = (SM, -1) := ⟨F_d_change_p5 rfl hX.come, F_m_change_p0 rfl hM.ahead⟩
theorem sim0_odds (hX : cx_0 oX g x SX) (hM : mx_0 x SM) : F_d_odds oX SX a1 a2 = (SX, -1) ∧ F_m_odds oM SM a1 a2 = (SM, -1) := ⟨F_d_odds_p3 rfl hX.come, F_m_odds_p0 rfl hM.ahead⟩
theorem sim0_reaches (hX : cx_0 oX g x SX) (hM : mx_0 x SM) : F_d_reaches oX SX = (SX, -1) ∧ F_m_reaches oM SM = (SM, -1) := ⟨F_d_reaches_p0 hX.1.symm rfl hX.seam, F_m_reaches_p0 rfl hM.1⟩
theorem sim0_tells (hX : cx_0 oX g x SX) (hM : mx_0 x SM) : F_d_tells oX SX a1 = (SX, -1) ∧ F_m_tells oM SM a1 = (SM, -1) := ⟨F_d_tells_p7 rfl hX.come, F_m_tells_p0 rfl hM.1⟩
theorem sim0_sale (hX : cx_0 oX g x SX) (hM : mx_0 x SM) : F_d_sale oX SX a1 = F_m_sale oM SM a1 := by
  have z0 : (0 : Int32).toInt = 0 := by decide +kernel
  have z1 : (1 : Int32).toInt = 1 := by decide +kernel
  have s1 : ((1 : Int32) <<< ((0 : Int32) &&& 31)) ≤ (1 : Int32) := by decide +kernel
  have hj := mx_is (o := oM) (S := SM) (a := a1) (b := 0) (c := 1)
  rw [z0, z1] at hj
  have pf : F_d_paidFor oX SX 0 = 0 := by
    rw [F_d_paidFor_p4]
    exact lp_sr (F_d_paidFor_p0 hX.1.symm rfl (by rw [hX.2.1.2.2.2.2]; decide +kernel))
  by_cases q0 : a1 = (0 : Int32)
  · have d0 := dk_eqc z0 q0
    rw [F_d_sale_p7 q0, F_d_sale_p6, lp_sr (F_d_sale_p1 hX.1.symm rfl rfl (by rw [hX.2.1.2.2.2.2]; exact s1) q0)]
    rcases hj with ⟨e, -⟩ | ⟨-, e⟩
    · rw [F_m_sale_p15 rfl (by rw [e]; decide +kernel), lp_sr (F_m_sale_p1 rfl rfl rfl (by rw [hM.2.1.2.2.2.2]; exact s1) q0)]
    · omega
  · have d0 := dk_neqc z0 q0
    by_cases q1 : a1 = (1 : Int32)
    · have d1 := dk_eqc z1 q1
      rw [F_d_sale_p8 q0 q1, F_d_sale_p6, lp_sr (F_d_sale_p0 hX.1.symm rfl rfl (by rw [hX.2.1.2.2.2.2]; exact s1) q0 rfl), pf]
      rcases hj with ⟨e, -⟩ | ⟨-, e⟩
      · rw [F_m_sale_p15 rfl (by rw [e]; decide +kernel), lp_sr (F_m_sale_p0 rfl rfl rfl (by rw [hM.2.1.2.2.2.2]; exact s1) q0)]
      · omega
    · have d1 := dk_neqc z1 q1
      rcases hj with ⟨-, e⟩ | ⟨e, -⟩
      · omega
      · rw [F_d_sale_p9 q0 q1, F_m_sale_p16 rfl e]
theorem sim0_shifts (hX : cx_0 oX g x SX) (hM : mx_0 x SM) : F_d_shifts oX SX a1 = F_d_none oX SX 2 ∧ F_m_shifts oM SM a1 = F_m_refuses oM SM 2 := ⟨F_d_shifts_p3 rfl hX.come rfl rfl, F_m_shifts_p3 rfl hM.ahead rfl rfl⟩
theorem sim0_chance (hX : cx_0 oX g x SX) (hM : mx_0 x SM) : F_d_chance oX SX a1 = F_d_none oX SX 2 ∧ F_m_chance oM SM a1 = F_m_refuses oM SM 2 := ⟨F_d_chance_p3 rfl hX.come rfl rfl, F_m_chance_p6 rfl hM.ahead rfl rfl⟩
theorem sim0_hang (hX : cx_0 oX g x SX) (hM : mx_0 x SM) : F_d_hang oX SX a1 a2 a3 = F_d_no oX SX 3 ∧ F_m_hang oM SM a1 a2 a3 = ((F_m_refuses oM SM 3).1, 0) := ⟨F_d_hang_p0 hX.1.symm rfl hX.place rfl rfl, (F_m_hang_p5 rfl hM.cell).trans (if_pos rfl)⟩
theorem sim0_send (hX : cx_0 oX g x SX) (hM : mx_0 x SM) : F_d_send oX SX a1 a2 a3 a4 = F_d_no oX SX 3 ∧ F_m_send oM SM a1 a2 a3 a4 = ((F_m_refuses oM SM 3).1, 0) := ⟨F_d_send_p0 hX.1.symm rfl hX.place rfl rfl, F_m_send_p0 rfl rfl rfl rfl hM.row rfl⟩
theorem sim0_heal (hX : cx_0 oX g x SX) (hM : mx_0 x SM) : F_d_heal oX SX a1 = F_d_no oX SX 3 ∧ F_m_heal oM SM a1 = ((F_m_refuses oM SM 3).1, 0) := ⟨F_d_heal_p0 hX.1.symm rfl hX.miner rfl rfl, F_m_heal_p0 rfl hM.miner rfl⟩
theorem sim0_sell (hX : cx_0 oX g x SX) (hM : mx_0 x SM) : F_d_sell oX SX a1 = F_d_none oX SX 3 ∧ F_m_sell oM SM a1 = F_m_refuses oM SM 3 := ⟨F_d_sell_p0 hX.1.symm rfl hX.order rfl rfl, F_m_sell_p7 rfl (F_m_canSell_p0 rfl hM.order) rfl rfl⟩
theorem sim0_undo (hX : cx_0 oX g x SX) (hM : mx_0 x SM) : F_d_undo oX SX = F_d_no oX SX 4 ∧ F_m_undo oM SM = ((F_m_refuses oM SM 4).1, 0) := by
  have e : F_h_takeBack oX SX 3 = (SX, 0) := F_h_takeBack_p2 rfl hX.2.2.2.1.2
  exact ⟨F_d_undo_p1 (S_2 := SX) (by rw [e]) (by rw [e]) rfl rfl rfl, F_m_undo_p1 rfl hM.2.2.2.1 rfl⟩
theorem sim0_kept (hX : cx_0 oX g x SX) (hM : mx_0 x SM) : F_d_kept oX SX a1 a2 = -1 ∧ F_m_kept oM SM a1 a2 = -1 := by
  have n0 : (0 : Int32).toNatClampNeg = 0 := by decide +kernel
  refine ⟨?_, F_m_kept_p0 rfl rfl rfl ?_⟩
  · by_cases q : a1 < (0 : Int32)
    · exact F_d_kept_p0 q
    · exact F_d_kept_p1 q rfl (by rw [hX.2.2.2.1.1]; exact w_0le q)
  · rw [n0, hM.2.2.1.2.2.2.1]
    rcases mx_is (o := oM) (S := SM) (a := a1) (b := 0) (c := (0 : Int32) - (1 : Int32)) with ⟨-, w1, w2⟩ | ⟨e, -⟩
    · exfalso
      have e1 : ((0 : Int32) - (1 : Int32)).toInt = -1 := by decide +kernel
      rw [e1] at w2
      rw [show (0 : Int32).toInt = 0 by decide +kernel] at w1
      omega
    · exact e
/-- feel: nothing can be felt -/
theorem cx_0.felt (h : cx_0 o g x S) : F_e_canBeFelt o S g a1 = 0 := by
  by_cases q : (30 : Int32) < S.2.1 2 a1.toNatClampNeg
  · exact F_e_canBeFelt_p0 rfl q
  · exact F_e_canBeFelt_p1 rfl q rfl rfl rfl rfl rfl h.place
theorem cx_0.take (h : cx_0 o g x S) : F_e_take o S g = (S, 0) := by
  by_cases q1 : zI S 1 1 - zI S 1 1 / (4 : Int32) * (4 : Int32) = (0 : Int32)
  · by_cases q2 : zI S 1 1 / (4 : Int32) < (1 : Int32)
    · exact F_e_take_p1 rfl rfl rfl q1 q2
    · by_cases q3 : zI S 1 1 / (4 : Int32) ≤ (16 : Int32)
      · rw [F_e_take_p6 rfl rfl rfl q1 q2 q3]
        have d2 := dk_nltc (k := 1) (by decide +kernel) q2
        exact lp_sr (F_e_take_p5 (fun z => by have := dk_lec (k := 0) (by decide +kernel) z; omega) rfl rfl h.felt)
      · exact F_e_take_p7 rfl rfl rfl q1 q2 q3
  · exact F_e_take_p0 rfl rfl q1
theorem cx_0_feel (h : cx_0 o g x S) : F_d_feel o S = F_d_none o (dg_uF S 1 1 (.int 0)) 5 := F_d_feel_p0 (S_3 := S) (x_2 := 0) h.1.symm (by rw [h.take]) (by rw [h.take]) rfl rfl rfl rfl
theorem mx_0_feel (h : mx_0 x S) (hn : (zI S 0 1).toInt = n) (hn9 : n ≤ 1600) : F_m_feel o S = F_m_refuses o (dg_uF S 0 1 (.int 0)) 5 := by
  have z0 : (0 : Int32).toInt = 0 := by decide +kernel
  have z4 : (4 : Int32).toInt = 4 := by decide +kernel
  have z64 : (64 : Int32).toInt = 64 := by decide +kernel
  obtain ⟨S3, h3⟩ : ∃ X, X = dg_uF S 0 1 (.int (0 : Int32)) := ⟨_, rfl⟩
  rw [← h3]
  by_cases q1 : zI S 0 1 ≤ (0 : Int32)
  · exact (F_m_feel_p2 rfl h3 q1).trans ((lp_sr F_m_feel_p1).trans (F_m_feel_p0 rfl rfl))
  have d1 := dk_nlec z0 q1
  have rr : (zI S 0 1 - zI S 0 1 / (4 : Int32) * (4 : Int32)).toInt = (n : Int) % 4 := by rw [dk_remL (by omega) z4 (by decide), hn]
  by_cases q2 : zI S 0 1 - zI S 0 1 / (4 : Int32) * (4 : Int32) = (0 : Int32)
  rotate_left
  · exact (F_m_feel_p5 rfl h3 q1 rfl q2).trans ((lp_sr F_m_feel_p4).trans (F_m_feel_p3 rfl rfl))
  have d2 := dk_eqc z0 q2
  rw [rr] at d2
  by_cases q3 : (64 : Int32) < zI S 0 1
  · exact (F_m_feel_p8 rfl h3 q1 rfl q2 q3).trans ((lp_sr F_m_feel_p7).trans (F_m_feel_p6 rfl rfl))
  have h47 : zI S3 0 47 = 0 := by rw [h3, w_I0 (by decide)]; exact h.1
  have q0 : ¬ zI S 0 1 ≤ (0 : Int32) := q1
  have n1 : ¬ (1 : Int32) = (0 : Int32) := by decide +kernel
  have step : ∃ c : Int32, c.toInt = 4 ∧ F_m_feel_B9 (zI S 0 1) o S3 S ((0 : Int32), (1 : Int32)) = .inl (c, (0 : Int32)) := by
    have z4' : ((0 : Int32) + 4).toInt = 4 := by decide +kernel
    by_cases p1 : (30 : Int32) < S3.2.1 1 (0 : Int32).toNatClampNeg
    · exact ⟨_, z4', F_m_feel_p16 q0 n1 rfl p1 rfl⟩
    · exact ⟨_, z4', F_m_feel_p17 q0 n1 rfl p1 rfl rfl rfl rfl rfl (F_m_isCell_p0 rfl h47) rfl⟩
  obtain ⟨c, hc, e⟩ := step
  have e2 : F_m_feel_B9 (zI S 0 1) o S3 S (c, (0 : Int32)) = .inr (F_m_feel_J7 0 o S3 (zI S 0 1) S) := by
    by_cases p : zI S 0 1 ≤ c
    · exact F_m_feel_p14 p
    · exact F_m_feel_p15 p rfl
  rw [F_m_feel_p21 rfl h3 q1 rfl q2 q3, show ((1604 - ((0 : Int32)).toInt).toNat + 1) = (1603 + 1) + 1 by decide +kernel, lp_sl e, lp_sr e2]
  exact F_m_feel_p13 rfl rfl rfl
theorem cx_0_on (h : cx_0 o g x S) : F_d_on o S = F_d_no o (dg_uF S 1 1 (.int 0)) 5 := by
  have := F_d_on_p0 (o := o) (S := S) h.1.symm rfl h.seam rfl rfl rfl
  exact this
theorem mx_0_on (h : mx_0 x S) : F_m_on o S = ((F_m_refuses o (dg_uF S 0 1 (.int 0)) 5).1, 0) := by
  have h47 : zI (dg_uF S 0 1 (.int 0)) 0 47 = 0 := by rw [w_I0 (by decide)]; exact h.1
  have e := F_m_comesOn_p0 (o := o) (S := dg_uF S 0 1 (.int 0)) (a1 := zI S 0 1) rfl h47
  exact F_m_on_p2 (S_5 := dg_uF S 0 1 (.int 0)) (x_4 := 0) rfl rfl (by rw [e]) (by rw [e]) rfl rfl
end FA
end
section
/-! rows that are FELT -/
def FB (f : Nat → Int32) (k : Nat) (cx ry : Int) : Prop := (f k).toInt ≤ 30 ∧ (f (k + 1)).toInt < cx ∧ (f (k + 2)).toInt < ry ∧ ((f (k + 3)).toInt ≤ 9 ∨ (f (k + 3)).toInt = 255)
def FEU (f : Nat → Int32) (k cx ry : Int) : Prop := ∀ j : Nat, 4 * (j : Int) < k → FB f (4 * j) cx ry
def FEL (f : Nat → Int32) (n cx ry : Int) : Prop := n % 4 = 0 ∧ 4 ≤ n ∧ n ≤ 64 ∧ FEU f n cx ry
section FES
variable {f g : Nat → Int32} {k i1 i2 i3 x0 x1 x2 x3 x : Int32} {cx ry n m m' : Int}
theorem fb_ix {k i : Int32} {d : Nat} (h0 : 0 ≤ k.toInt) (j : i.toInt = k.toInt + d) : i.toNatClampNeg = k.toNatClampNeg + d := by
  have c1 := dk_clN k
  have c2 := dk_clN i
  omega
theorem FB.y (p0 : x0 = f k.toNatClampNeg) (p1 : x1 = f i1.toNatClampNeg) (p2 : x2 = f i2.toNatClampNeg) (p3 : x3 = f i3.toNatClampNeg) (h0 : 0 ≤ k.toInt) (j1 : i1.toInt = k.toInt + 1) (j2 : i2.toInt = k.toInt + 2) (j3 : i3.toInt = k.toInt + 3) (c0 : x0.toInt ≤ 30) (c1 : x1.toInt < cx) (c2 : x2.toInt < ry) (c3 : x3.toInt ≤ 9 ∨ x3.toInt = 255) : FB f k.toNatClampNeg cx ry := by
  rw [fb_ix (d := 1) h0 j1] at p1
  rw [fb_ix (d := 2) h0 j2] at p2
  rw [fb_ix (d := 3) h0 j3] at p3
  unfold FB
  rw [← p0, ← p1, ← p2, ← p3]
  exact ⟨c0, c1, c2, c3⟩
theorem FB.n0 (p0 : x0 = f k.toNatClampNeg) (c : 30 < x0.toInt) : ¬ FB f k.toNatClampNeg cx ry := fun h => by
  have h1 := h.1
  rw [← p0] at h1
  omega
theorem FB.n1 (p1 : x1 = f i1.toNatClampNeg) (p2 : x2 = f i2.toNatClampNeg) (h0 : 0 ≤ k.toInt) (j1 : i1.toInt = k.toInt + 1) (j2 : i2.toInt = k.toInt + 2) (c : ¬ (x1.toInt < cx ∧ x2.toInt < ry)) : ¬ FB f k.toNatClampNeg cx ry := fun h => by
  rw [fb_ix (d := 1) h0 j1] at p1
  rw [fb_ix (d := 2) h0 j2] at p2
  have h1 := h.2.1
  have h2 := h.2.2.1
  rw [← p1] at h1
  rw [← p2] at h2
  exact c ⟨h1, h2⟩
theorem FB.n3 (p3 : x3 = f i3.toNatClampNeg) (h0 : 0 ≤ k.toInt) (j3 : i3.toInt = k.toInt + 3) (c : ¬ (x3.toInt ≤ 9 ∨ x3.toInt = 255)) : ¬ FB f k.toNatClampNeg cx ry := fun h => by
  rw [fb_ix (d := 3) h0 j3] at p3
  have h1 := h.2.2.2
  rw [← p3] at h1
  exact c h1
theorem FEU.zr (h : m ≤ 0) : FEU f m cx ry := fun j hj => by omega
theorem FEU.st (h : FEU f m cx ry) (hb : FB f x.toNatClampNeg cx ry) (hx : x.toInt = m) (h4 : m % 4 = 0) (h0 : 0 ≤ m) (hm : m' = m + 4) : FEU f m' cx ry := fun j hj => by
  have c := dk_clN x
  by_cases q : 4 * (j : Int) < m
  · exact h j q
  · rw [show 4 * j = x.toNatClampNeg from by omega]
    exact hb
theorem FEU.le (h : FEU f m cx ry) (hn : n ≤ m) : FEU f n cx ry := fun j hj => h j (by omega)
theorem FEL.no (hb : ¬ FB f x.toNatClampNeg cx ry) (hx : x.toInt = m) (h4 : m % 4 = 0) (h0 : 0 ≤ m) (hm : m < n) : ¬ FEL f n cx ry := fun h => by
  have c := dk_clN x
  have h1 := h.2.2.2 (m.toNat / 4) (by omega)
  rw [show 4 * (m.toNat / 4) = x.toNatClampNeg from by omega] at h1
  exact hb h1
theorem FEL.nn (h : ¬ (n % 4 = 0 ∧ 4 ≤ n ∧ n ≤ 64)) : ¬ FEL f n cx ry := fun q => h ⟨q.1, q.2.1, q.2.2.1⟩
theorem FEL.mk (h4 : n % 4 = 0) (h1 : 4 ≤ n) (h2 : n ≤ 64) (h : FEU f m cx ry) (hm : n ≤ m) : FEL f n cx ry := ⟨h4, h1, h2, h.le hm⟩
/-- two tapes with the same bytes -/
theorem FEL.as {t : Int32} (h : ∀ j, j < t.toNatClampNeg → f j = g j) (q : FEL f t.toInt cx ry) : FEL g t.toInt cx ry := by
  have c := dk_clN t
  refine ⟨q.1, q.2.1, q.2.2.1, fun j hj => ?_⟩
  have h1 := q.2.2.2 j hj
  have h4 := q.1
  unfold FB at h1 ⊢
  rw [← h (4 * j) (by omega), ← h (4 * j + 1) (by omega), ← h (4 * j + 2) (by omega), ← h (4 * j + 3) (by omega)]
  exact h1
theorem law_feel {t r1 r2 : Int32} {c1 c2 : Int} (h : ∀ j, j < t.toNatClampNeg → f j = g j) (e1 : c1 = cx) (e2 : c2 = ry) (w1 : (FEL f t.toInt cx ry → r1.toInt = t.toInt / 4) ∧ (¬ FEL f t.toInt cx ry → r1.toInt = -1)) (w2 : (FEL g t.toInt c1 c2 → r2.toInt = t.toInt / 4) ∧ (¬ FEL g t.toInt c1 c2 → r2.toInt = -1)) : r1.toInt = r2.toInt := by
  subst e1 e2
  by_cases q : FEL f t.toInt c1 c2
  · rw [w1.1 q, w2.1 (q.as h)]
  · rw [w1.2 q, w2.2 (fun z => q (z.as (fun j hj => (h j hj).symm)))]
end FES
/-! how many cells a seam has -/
def IMm (a b : Int) : Int := a * b
theorem IMm.zr {a b : Int} (h : a = 0) : IMm a b = 0 := by
  unfold IMm
  rw [h, Int.zero_mul]
theorem IMm.sc {a a' b : Int} (h : a' = a + 1) : IMm a' b = IMm a b + b := by
  unfold IMm
  rw [h, Int.add_mul, Int.one_mul]
theorem IMm.bd {a b : Int} (h1 : 0 ≤ a) (h2 : a ≤ 7) (h3 : 0 ≤ b) (h4 : b ≤ 7) : 0 ≤ IMm a b ∧ IMm a b ≤ 49 := by
  have ha : a = 0 ∨ a = 1 ∨ a = 2 ∨ a = 3 ∨ a = 4 ∨ a = 5 ∨ a = 6 ∨ a = 7 := by omega
  unfold IMm
  rcases ha with rfl | rfl | rfl | rfl | rfl | rfl | rfl | rfl <;> omega
/-- cells ahead of c, eight places a row -/
def CNm (cx ry : Int) : Nat → Int
  | 0 => 0
  | c + 1 => CNm cx ry c + (if (c : Int) % 8 < cx ∧ (c : Int) / 8 < ry then 1 else 0)
theorem CNm.all {cx ry : Int} (h1 : 0 ≤ cx) (h2 : cx ≤ 7) (h3 : 0 ≤ ry) (h4 : ry ≤ 7) : CNm cx ry 64 = IMm ry cx := by
  have key : ∀ a : Fin 8, ∀ b : Fin 8, CNm (a.val : Int) (b.val : Int) 64 = IMm (b.val : Int) (a.val : Int) := by decide +kernel
  have h := key ⟨cx.toNat, by omega⟩ ⟨ry.toNat, by omega⟩
  simp only [Int.toNat_of_nonneg h1, Int.toNat_of_nonneg h3] at h
  exact h
theorem CNm.st {cx ry : Int} {x x' : Int32} (hx : x'.toInt = x.toInt + 1) (h0 : 0 ≤ x.toInt) : CNm cx ry x'.toNatClampNeg = CNm cx ry x.toNatClampNeg + (if x.toInt % 8 < cx ∧ x.toInt / 8 < ry then 1 else 0) := by
  have c1 := dk_clN x
  have c2 := dk_clN x'
  rw [show x'.toNatClampNeg = x.toNatClampNeg + 1 from by omega]
  show CNm cx ry x.toNatClampNeg + (if ((x.toNatClampNeg : Nat) : Int) % 8 < cx ∧ ((x.toNatClampNeg : Nat) : Int) / 8 < ry then 1 else 0) = _
  rw [show ((x.toNatClampNeg : Nat) : Int) = x.toInt from by omega]
end
section
/-! no seam: HAS, IMAGE -/
section FB
variable {o oX oM g n p k i : Nat} {B : Nat → Int} {S S0 S1 SX SM T : dg_S} {x x' c v : Int} {a a1 a2 a3 a4 y : Int32}
theorem mx_0.cellOf (h : mx_0 x S) : F_m_isCellOf o S a = 0 := by
  by_cases q : a < (0 : Int32)
  · exact F_m_isCellOf_p0 q
  · exact F_m_isCellOf_p1 q rfl rfl rfl h.cell
theorem mx_0.keep (h : mx_0 x S) (t : kp (fun _ _ => False) (fun a => a = 42 ∨ a = 43) S S1) : mx_0 x S1 := by
  obtain ⟨h1, ⟨h2, h3, h8, h9, h12⟩, ⟨h29, h30, h33, h38, h37⟩, h61, hx⟩ := h
  have e13 : zI S1 0 13 = zI S 0 13 := t.I id
  refine ⟨by rw [t.I id]; exact h1, ⟨?_, ?_, ?_, ?_, ?_⟩, ⟨?_, ?_, ?_, ?_, fun k => ?_⟩, by rw [t.I id]; exact h61, by rw [t.L id]; exact hx⟩
  · rw [e13, (t.2 2 (by decide)).1]; exact h2
  · rw [e13, (t.2 3 (by decide)).1]; exact h3
  · rw [e13, (t.2 8 (by decide)).1]; exact h8
  · rw [e13, (t.2 9 (by decide)).1]; exact h9
  · rw [e13, (t.2 12 (by decide)).1]; exact h12
  · rw [(t.2 29 (by decide)).1]; exact h29
  · rw [(t.2 30 (by decide)).1]; exact h30
  · rw [(t.2 33 (by decide)).1]; exact h33
  · rw [(t.2 38 (by decide)).1]; exact h38
  · rw [(t.2 37 (by decide)).1]; exact h37 k
theorem mx_0.beside (h : mx_0 x S) : F_m_besideOf o S a a1 = -1 := by
  by_cases q1 : a1 = (1 : Int32)
  · exact mx_b6 q1 h.cell
  · by_cases q3 : a1 = (3 : Int32)
    · exact mx_b4 q1 q3 h.cell
    · by_cases q2 : a1 = (2 : Int32)
      · exact mx_b2 q1 q3 q2 h.cell
      · exact mx_b0 q1 q3 q2 h.cell
theorem mx_0.measures (h : mx_0 x S) : ∃ T, F_m_measures o S a1 = T ∧ kp (fun _ _ => False) (fun a => a = 42 ∨ a = 43) S T := by
  have z0 : (0 : Int32).toInt = 0 := by decide +kernel
  have z1 : (1 : Int32).toInt = 1 := by decide +kernel
  have z4 : (4 : Int32).toInt = 4 := by decide +kernel
  have z64 : (64 : Int32).toInt = 64 := by decide +kernel
  obtain ⟨sh, hsh⟩ : ∃ sh : Int32, sh = S.2.1 4 (zI S 0 13).toNatClampNeg := ⟨_, rfl⟩
  obtain ⟨bk, hbk⟩ : ∃ bk : Int32, bk = zI S 0 13 := ⟨_, rfl⟩
  rw [F_m_measures_p13 (bk := bk) (sh := sh) hbk (hsh.trans (by rw [hbk]))]
  have first := lp_cnt (f := F_m_measures_B5 sh a1 S bk o) (z := S) (W := 64) (P := fun i T => kp (fun _ _ => False) (fun a => a = 42 ∨ a = 43) S T) (Q := fun q => ∃ T, q = F_m_measures_J1 T sh a1 S bk o ∧ kp (fun _ _ => False) (fun a => a = 42 ∨ a = 43) S T) (by decide) (fun i iI T hi hiI hP => by
    have q0 : ¬ (64 : Int32) ≤ iI := fun z => by have := dk_gec z64 z; omega
    by_cases q : iI = sh
    · exact ⟨_, F_m_measures_p12 q0 q rfl rfl, kp.uf hP (Or.inl rfl)⟩
    · exact ⟨_, F_m_measures_p11 q0 q rfl rfl, kp.uf hP (Or.inl rfl)⟩) (fun iI T hiI hP => ⟨_, F_m_measures_p10 (dk_gep z64 (by omega)), T, rfl, hP⟩) ((65 - ((0 : Int32)).toInt).toNat + 1) 0 0 S (by rw [z0]; decide) (by decide) z0 kp.rf
  obtain ⟨T, eT, kT⟩ := first
  obtain ⟨T1, h1⟩ : ∃ X, X = dg_uf T 43 (upd (T.2.1 43) (0 : Int32).toNatClampNeg sh) := ⟨_, rfl⟩
  have k1 : kp (fun _ _ => False) (fun a => a = 42 ∨ a = 43) S T1 := by
    rw [h1]
    exact kp.uf kT (Or.inr rfl)
  have m1 := h.keep k1
  rw [eT, F_m_measures_p9 h1]
  have z01 : ((0 : Int32) + 1).toInt = 1 := by decide +kernel
  have n10 : ¬ (1 : Int32) ≤ (0 : Int32) := by decide +kernel
  have step : F_m_measures_B2 a1 S bk o ((0 : Int32), (1 : Int32), T1) = .inl ((0 : Int32) + 1, (1 : Int32), T1) := by
    by_cases q : T1.2.1 32 ((64 : Int32) * a1 + T1.2.1 43 (0 : Int32).toNatClampNeg).toNatClampNeg = (1 : Int32)
    · exact F_m_measures_p8 n10 rfl rfl rfl rfl q rfl
    · refine (F_m_measures_p7 n10 rfl rfl rfl rfl q).trans ?_
      exact lp_cnt (f := F_m_measures_B4 (0 : Int32) S bk o (T1.2.1 43 (0 : Int32).toNatClampNeg) a1) (z := Sum.inr S) (W := 4) (P := fun i s => s = ((1 : Int32), T1)) (Q := fun q => q = .inl ((0 : Int32) + 1, (1 : Int32), T1)) (by decide) (fun i iI s hi hiI hP => by
        rw [hP]
        exact ⟨_, F_m_measures_p3 (fun z => by have := dk_gec z4 z; omega) rfl m1.beside rfl, rfl⟩) (fun iI s hiI hP => by
        rw [hP]
        exact ⟨_, F_m_measures_p2 (dk_gep z4 (by omega)), F_m_measures_p1 rfl⟩) ((5 - ((0 : Int32)).toInt).toNat + 1) 0 0 ((1 : Int32), T1) (by rw [z0]; decide) (by decide) z0 rfl
  refine ⟨T1, ?_, k1⟩
  rw [show ((65 - ((0 : Int32)).toInt).toNat + 1) = (64 + 1) + 1 by decide +kernel, lp_sl step]
  exact lp_sr (F_m_measures_p0 (by decide +kernel))
theorem w_00 : (0 : Int32) + 0 = 0 := by decide +kernel
theorem w_m0 {a : Int32} : a * (0 : Int32) = 0 := Int32.mul_zero
theorem cx_0.opn (h : cx_0 o g x S) : F_d_countOpen o S = 0 := by
  have z0 : (0 : Int32).toInt = 0 := by decide +kernel
  have z72 : (72 : Int32).toInt = 72 := by decide +kernel
  rw [F_d_countOpen_p2]
  refine lp_cnt (f := F_d_countOpen_B1 o S) (z := (0 : Int32)) (W := 72) (P := fun _ u => u = 0) (Q := fun q => q = 0) (by decide) (fun p pI u hp hpI hP => ?_) (fun pI u hpI hP => ⟨_, F_d_countOpen_p0 (dk_gep z72 (by omega)), hP⟩) ((73 - ((0 : Int32)).toInt).toNat + 1) 0 0 0 (by rw [z0]; decide) (by decide) z0 rfl
  have hP : u = 0 := hP
  have e1 : F_p_isOpen o S 3 pI = 0 := F_p_isOpen_p0 rfl (by rw [show (3 + 1 : Nat) = 4 from rfl]; rcases h.2.2.1.2.2.1 pI.toNatClampNeg with e | e <;> (rw [e]; decide +kernel))
  refine ⟨_, F_d_countOpen_p1 (fun z => by have := dk_gec z72 z; omega) rfl rfl rfl rfl, ?_⟩
  rw [e1, F_flag_p0 rfl, hP]
  exact w_00
theorem cx_0.curtains (h : cx_0 o g x S) : F_d_countCurtains o S = 0 := by
  have z0 : (0 : Int32).toInt = 0 := by decide +kernel
  have z72 : (72 : Int32).toInt = 72 := by decide +kernel
  rw [F_d_countCurtains_p4]
  refine lp_cnt (f := F_d_countCurtains_B1 S o) (z := (0 : Int32)) (W := 72) (P := fun _ u => u = 0) (Q := fun q => q = 0) (by decide) (fun p pI u hp hpI hP => ?_) (fun pI u hpI hP => ⟨_, F_d_countCurtains_p0 (dk_gep z72 (by omega)), hP⟩) ((73 - ((0 : Int32)).toInt).toNat + 1) 0 0 0 (by rw [z0]; decide) (by decide) z0 rfl
  have hP : u = 0 := hP
  have n254 : ¬ S.2.1 4 pI.toNatClampNeg = (254 : Int32) := by rcases h.2.2.1.2.2.1 pI.toNatClampNeg with e | e <;> (rw [e]; decide +kernel)
  refine ⟨_, (F_d_countCurtains_p2 (fun z => by have := dk_gec z72 z; omega) rfl n254).trans (F_d_countCurtains_p1 rfl rfl rfl), ?_⟩
  rw [F_flag_p0 rfl, hP]
  exact w_00
theorem cx_0.tubs (h : cx_0 o g x S) : F_p_tubsFrom o S 3 0 = 0 := by
  have z0 : (0 : Int32).toInt = 0 := by decide +kernel
  have z9 : (9 : Int32).toInt = 9 := by decide +kernel
  rw [F_p_tubsFrom_p2]
  refine lp_cnt (f := F_p_tubsFrom_B1 S 3) (z := (0 : Int32)) (W := 10) (P := fun _ u => u = 0) (Q := fun q => q = 0) (by decide) (fun p pI u hp hpI hP => ?_) (fun pI u hpI hP => ⟨_, F_p_tubsFrom_p0 (dk_gtp z9 (by omega)), hP⟩) ((11 - ((0 : Int32)).toInt).toNat + 1) 0 0 0 (by rw [z0]; decide) (by decide) z0 rfl
  have hP : u = 0 := hP
  refine ⟨_, F_p_tubsFrom_p1 (fun z => by have := dk_gtc z9 z; omega) rfl rfl rfl, ?_⟩
  rw [show (3 + 6 : Nat) = 9 from rfl, h.2.2.1.2.2.2, hP]
  exact w_00
theorem cx_0.worth (h : cx_0 o g x S) : F_p_wholeWorth o S 3 = 0 := by
  have z0 : (0 : Int32).toInt = 0 := by decide +kernel
  have z9 : (9 : Int32).toInt = 9 := by decide +kernel
  have z72 : (72 : Int32).toInt = 72 := by decide +kernel
  have tg : F_p_tubGrades o S 3 = 0 := by
    rw [F_p_tubGrades_p2]
    refine lp_cnt (f := F_p_tubGrades_B1 S 3) (z := (0 : Int32)) (W := 10) (P := fun _ u => u = 0) (Q := fun q => q = 0) (by decide) (fun p pI u hp hpI hP => ?_) (fun pI u hpI hP => ⟨_, F_p_tubGrades_p0 (dk_gtp z9 (by omega)), hP⟩) ((11 - ((0 : Int32)).toInt).toNat + 1) 0 0 0 (by rw [z0]; decide) (by decide) z0 rfl
    have hP : u = 0 := hP
    refine ⟨_, F_p_tubGrades_p1 (fun z => by have := dk_gtc z9 z; omega) rfl rfl rfl rfl, ?_⟩
    rw [show (3 + 6 : Nat) = 9 from rfl, h.2.2.1.2.2.2, hP, w_m0]
    exact w_00
  rw [F_p_wholeWorth_p4 rfl, tg]
  refine lp_cnt (f := F_p_wholeWorth_B1 o S 3) (z := (0 : Int32)) (W := 72) (P := fun _ u => u = 0) (Q := fun q => q = 0) (by decide) (fun p pI u hp hpI hP => ?_) (fun pI u hpI hP => ⟨_, F_p_wholeWorth_p0 (dk_gep z72 (by omega)), hP⟩) ((73 - ((0 : Int32)).toInt).toNat + 1) 0 0 0 (by rw [z0]; decide) (by decide) z0 rfl
  have hP : u = 0 := hP
  have q0 : ¬ (72 : Int32) ≤ pI := fun z => by have := dk_gec z72 z; omega
  by_cases q : F_p_isSolid0 o S 3 pI = (0 : Int32)
  · exact ⟨_, (F_p_wholeWorth_p2 q0 rfl q).trans (F_p_wholeWorth_p1 rfl), hP⟩
  · have e4 : S.2.1 4 pI.toNatClampNeg = 0 := by
      rcases h.2.2.1.2.2.1 pI.toNatClampNeg with e | e
      · exact absurd (F_p_isSolid0_p0 (o := o) (pt := 3) (a1 := pI) rfl (by rw [show (3 + 1 : Nat) = 4 from rfl, e]; decide +kernel)) q
      · exact e
    refine ⟨_, (F_p_wholeWorth_p3 q0 rfl rfl q rfl).trans (F_p_wholeWorth_p1 rfl), ?_⟩
    rw [show (3 + 1 : Nat) = 4 from rfl, e4, hP]
    exact w_00
theorem mx_0.worth (h : mx_0 x S) : F_m_worthOf o S a1 = 0 := by
  have z0 : (0 : Int32).toInt = 0 := by decide +kernel
  have z10 : (10 : Int32).toInt = 10 := by decide +kernel
  have z64 : (64 : Int32).toInt = 64 := by decide +kernel
  have tg : F_m_tubGrades o S a1 = 0 := by
    rw [F_m_tubGrades_p2]
    refine lp_cnt (f := F_m_tubGrades_B1 a1 S) (z := (0 : Int32)) (W := 10) (P := fun _ u => u = 0) (Q := fun q => q = 0) (by decide) (fun p pI u hp hpI hP => ?_) (fun pI u hpI hP => ⟨_, F_m_tubGrades_p0 (dk_gep z10 (by omega)), hP⟩) ((11 - ((0 : Int32)).toInt).toNat + 1) 0 0 0 (by rw [z0]; decide) (by decide) z0 rfl
    have hP : u = 0 := hP
    refine ⟨_, F_m_tubGrades_p1 (fun z => by have := dk_gec z10 z; omega) rfl rfl rfl rfl rfl rfl, ?_⟩
    rw [h.2.2.1.2.2.2.2, hP, w_m0]
    exact w_00
  rw [F_m_worthOf_p6 rfl, tg]
  refine lp_cnt (f := F_m_worthOf_B1 o S a1) (z := (0 : Int32)) (W := 64) (P := fun _ u => u = 0) (Q := fun q => q = 0) (by decide) (fun p pI u hp hpI hP => ?_) (fun pI u hpI hP => ⟨_, F_m_worthOf_p0 (dk_gep z64 (by omega)), hP⟩) ((65 - ((0 : Int32)).toInt).toNat + 1) 0 0 0 (by rw [z0]; decide) (by decide) z0 rfl
  have hP : u = 0 := hP
  refine ⟨_, (F_m_worthOf_p3 (fun z => by have := dk_gec z64 z; omega) rfl h.cellOf).trans (F_m_worthOf_p2.trans (F_m_worthOf_p1 rfl rfl)), ?_⟩
  rw [hP]
  exact w_00
/-- a count of the reference that counts nothing -/
theorem mx_0cnt {f : Int32 × Int32 → (Int32 × Int32) ⊕ (dg_S × Int32)} {z : dg_S × Int32} {W : Nat} (hW : W ≤ 64) (h0 : ∀ (iI u : Int32), iI.toInt < W → 0 ≤ iI.toInt → f (iI, u) = .inl (iI + 1, u + 0)) (h1 : ∀ (iI u : Int32), iI.toInt = W → f (iI, u) = .inr (T, u)) {N : Nat} (hN : W + 1 ≤ N) : lp f z N ((0 : Int32), (0 : Int32)) = (T, 0) := by
  have z0 : (0 : Int32).toInt = 0 := by decide +kernel
  refine lp_cnt (f := f) (z := z) (W := W) (P := fun _ u => u = 0) (Q := fun q => q = (T, 0)) (by omega) (fun p pI u hp hpI hP => ?_) (fun pI u hpI hP => ?_) N 0 0 0 (by omega) (by omega) z0 rfl
  · have hP : u = 0 := hP
    refine ⟨_, h0 pI u (by omega) (by omega), ?_⟩
    rw [hP]
    exact w_00
  · have hP : u = 0 := hP
    exact ⟨_, h1 pI u hpI, by rw [hP]⟩
/-- HAS -/
theorem sim0_has (hX : cx_0 oX g x SX) (hM : mx_0 x SM) (hf : zI SX 229 5 = zI SM 0 69) : (F_d_has oX SX a1).2 = (F_m_has oM SM a1).2 ∧ (F_d_has oX SX a1).1 = SX ∧ kp (fun _ _ => False) (fun a => a = 42 ∨ a = 43) SM (F_m_has oM SM a1).1 := by
  have z0 : (0 : Int32).toInt = 0 := by decide +kernel
  have z10 : (10 : Int32).toInt = 10 := by decide +kernel
  have z64 : (64 : Int32).toInt = 64 := by decide +kernel
  have n0 : (0 : Int32).toNatClampNeg = 0 := by decide +kernel
  have fin : ∀ (S2 : dg_S) (y1 y2 : Int32), F_d_has oX SX a1 = (SX, y1) → F_m_has oM SM a1 = (S2, y2) → y1 = y2 → kp (fun _ _ => False) (fun a => a = 42 ∨ a = 43) SM S2 → (F_d_has oX SX a1).2 = (F_m_has oM SM a1).2 ∧ (F_d_has oX SX a1).1 = SX ∧ kp (fun _ _ => False) (fun a => a = 42 ∨ a = 43) SM (F_m_has oM SM a1).1 := fun S2 y1 y2 e1 e2 e k => by
    rw [e1, e2]
    exact ⟨e, rfl, k⟩
  by_cases c0 : a1 = (0 : Int32)
  · exact fin SM _ _ (F_d_has_p1  c0 hX.1.symm rfl) (F_m_has_p1  c0 rfl rfl) (hX.2.1.1.trans hM.2.1.1.symm) kp.rf
  by_cases c1 : a1 = (1 : Int32)
  · exact fin SM _ _ (F_d_has_p2 c0 c1 hX.1.symm rfl) (F_m_has_p2 c0 c1 rfl rfl) (hX.2.1.2.1.trans hM.2.1.2.1.symm) kp.rf
  by_cases c2 : a1 = (2 : Int32)
  · exact fin SM _ _ (F_d_has_p3 c0 c1 c2 hX.1.symm rfl) (F_m_has_p3 c0 c1 c2 rfl rfl) (hX.2.1.2.2.1.trans hM.2.1.2.2.1.symm) kp.rf
  by_cases c3 : a1 = (3 : Int32)
  · exact fin SM _ _ (F_d_has_p4 c0 c1 c2 c3 hX.1.symm rfl) (F_m_has_p4 c0 c1 c2 c3 rfl rfl) (hX.2.1.2.2.2.1.trans hM.2.1.2.2.2.1.symm) kp.rf
  by_cases c4 : a1 = (4 : Int32)
  · exact fin SM _ _ (F_d_has_p5 c0 c1 c2 c3 c4 hX.1.symm rfl) (F_m_has_p5 c0 c1 c2 c3 c4 rfl rfl) (hX.2.1.2.2.2.2.trans hM.2.1.2.2.2.2.symm) kp.rf
  by_cases c5 : a1 = (5 : Int32)
  · exact fin SM _ _ (F_d_has_p6 c0 c1 c2 c3 c4 c5 rfl) (F_m_has_p6 c0 c1 c2 c3 c4 c5 rfl) (hX.2.2.1.1.trans (by rw [n0]; exact hM.2.2.1.1.symm)) kp.rf
  by_cases c6 : a1 = (6 : Int32)
  · refine fin SM _ _ (F_d_has_p7 c0 c1 c2 c3 c4 c5 c6 rfl) ((F_m_has_p13 c0 c1 c2 c3 c4 c5 c6).trans (mx_0cnt (W := 64) (T := SM) (by decide) (fun iI u h1 h2 => (F_m_has_p10 (fun z => by have := dk_gec z64 z; omega) rfl hM.cellOf).trans (F_m_has_p9.trans (F_m_has_p8 rfl rfl))) (fun iI u h1 => F_m_has_p7 (dk_gep z64 (by omega))) (by rw [z0]; decide))) hX.opn kp.rf
  by_cases c7 : a1 = (7 : Int32)
  · have e1 : F_d_countLit oX SX = (SX, 0) := F_d_countLit_p3 hX.1.symm rfl hX.seam
    obtain ⟨T, eT, kT⟩ := mx_0.measures (o := oM) (a1 := 0) hM
    have hT := hM.keep kT
    exact fin T _ _ (F_d_has_p8 (S_16 := SX) (x_15 := 0) c0 c1 c2 c3 c4 c5 c6 c7 (by rw [e1]) (by rw [e1])) ((F_m_has_p20 c0 c1 c2 c3 c4 c5 c6 c7 eT.symm).trans (mx_0cnt (W := 64) (T := T) (by decide) (fun iI u h1 h2 => (F_m_has_p17 (fun z => by have := dk_gec z64 z; omega) rfl hT.cellOf).trans (F_m_has_p16.trans (F_m_has_p15 rfl rfl))) (fun iI u h1 => F_m_has_p14 (dk_gep z64 (by omega))) (by rw [z0]; decide))) rfl kT
  by_cases c8 : a1 = (8 : Int32)
  · exact fin SM _ _ (F_d_has_p9 c0 c1 c2 c3 c4 c5 c6 c7 c8 rfl) ((F_m_has_p25 c0 c1 c2 c3 c4 c5 c6 c7 c8).trans (mx_0cnt (W := 64) (T := SM) (by decide) (fun iI u h1 h2 => (F_m_has_p23 (fun z => by have := dk_gec z64 z; omega) rfl hM.cellOf).trans (F_m_has_p22 rfl rfl)) (fun iI u h1 => F_m_has_p21 (dk_gep z64 (by omega))) (by rw [z0]; decide))) hX.curtains kp.rf
  by_cases c9 : a1 = (9 : Int32)
  · have e1 : F_d_countHurt oX SX = 0 := by
      rw [F_d_countHurt_p2]
      exact lp_sr (F_d_countHurt_p0 hX.1.symm rfl (by rw [hX.2.1.2.2.1]; decide +kernel))
    have e2 : F_m_bits oM SM 0 = 0 := by
      rw [F_m_bits_p2]
      exact lp_sr (F_m_bits_p0 rfl)
    exact fin SM _ _ (F_d_has_p10 c0 c1 c2 c3 c4 c5 c6 c7 c8 c9 rfl) (F_m_has_p26 c0 c1 c2 c3 c4 c5 c6 c7 c8 c9 rfl rfl) (by rw [e1, n0, hM.2.2.1.2.2.1, e2]) kp.rf
  by_cases c10 : a1 = (10 : Int32)
  · exact fin SM _ _ (F_d_has_p11 c0 c1 c2 c3 c4 c5 c6 c7 c8 c9 c10 rfl) ((F_m_has_p29 c0 c1 c2 c3 c4 c5 c6 c7 c8 c9 c10).trans (mx_0cnt (W := 10) (T := SM) (by decide) (fun iI u h1 h2 => by
      have := F_m_has_p28 (S := SM) (x_310 := iI) (x_311 := u) (fun z => by have := dk_gec z10 z; omega) rfl rfl rfl
      rw [hM.2.2.1.2.2.2.2] at this
      exact this) (fun iI u h1 => F_m_has_p27 (dk_gep z10 (by omega))) (by rw [z0]; decide))) hX.tubs kp.rf
  by_cases c11 : a1 = (11 : Int32)
  · exact fin SM _ _ (F_d_has_p12 c0 c1 c2 c3 c4 c5 c6 c7 c8 c9 c10 c11 rfl) (F_m_has_p30 c0 c1 c2 c3 c4 c5 c6 c7 c8 c9 c10 c11 rfl) (hX.2.2.1.2.1.trans (by rw [n0]; exact hM.2.2.1.2.1.symm)) kp.rf
  by_cases c12 : a1 = (12 : Int32)
  · exact fin SM _ _ (F_d_has_p13 c0 c1 c2 c3 c4 c5 c6 c7 c8 c9 c10 c11 c12 rfl) (F_m_has_p31 c0 c1 c2 c3 c4 c5 c6 c7 c8 c9 c10 c11 c12 rfl) (hX.worth.trans hM.worth.symm) kp.rf
  by_cases c13 : a1 = (13 : Int32)
  · exact fin SM _ _ (F_d_has_p14 c0 c1 c2 c3 c4 c5 c6 c7 c8 c9 c10 c11 c12 c13 rfl) (F_m_has_p32 c0 c1 c2 c3 c4 c5 c6 c7 c8 c9 c10 c11 c12 c13 rfl) (hX.2.2.2.1.1.trans (by rw [n0]; exact hM.2.2.1.2.2.2.1.symm)) kp.rf
  by_cases c14 : a1 = (14 : Int32)
  · exact fin SM _ _ (F_d_has_p15 c0 c1 c2 c3 c4 c5 c6 c7 c8 c9 c10 c11 c12 c13 c14 rfl) (F_m_has_p33 c0 c1 c2 c3 c4 c5 c6 c7 c8 c9 c10 c11 c12 c13 c14 rfl) (hf) kp.rf
  by_cases c15 : a1 = (15 : Int32)
  · exact fin SM _ _ (F_d_has_p16 c0 c1 c2 c3 c4 c5 c6 c7 c8 c9 c10 c11 c12 c13 c14 c15 rfl) (F_m_has_p34 c0 c1 c2 c3 c4 c5 c6 c7 c8 c9 c10 c11 c12 c13 c14 c15 rfl) (hX.2.2.2.1.2.trans hM.2.2.2.1.symm) kp.rf
  by_cases c16 : a1 = (16 : Int32)
  · have b1 := Int32.le_toInt (zI SX 0 12)
    have b2 := Int32.toInt_lt (zI SX 0 12)
    have hx := hX.2.2.2.2
    have hl := hM.2.2.2.2
    exact fin SM _ _ (F_d_has_p17 c0 c1 c2 c3 c4 c5 c6 c7 c8 c9 c10 c11 c12 c13 c14 c15 c16 rfl) (F_m_has_p35 c0 c1 c2 c3 c4 c5 c6 c7 c8 c9 c10 c11 c12 c13 c14 c15 c16 rfl rfl) (Int32.toInt_inj.mp (by rw [cx_l2i (by omega) (by omega)]; exact hx.trans hl.symm)) kp.rf
  exact fin SM _ _ (F_d_has_p0 c0 c1 c2 c3 c4 c5 c6 c7 c8 c9 c10 c11 c12 c13 c14 c15 c16) (F_m_has_p0 c0 c1 c2 c3 c4 c5 c6 c7 c8 c9 c10 c11 c12 c13 c14 c15 c16) rfl kp.rf
end FB
end
section
/-! no seam: IMAGE -/
def s_i9 : List Int := s_sg (fun _ => 0) [0, 0, 0, 0, 0] 10
def s_j9 : List Int := s_i9 ++ [s_cn s_i9 s_i9.length]
section FC
variable {o oX oM g n p k i : Nat} {l : List Int} {S S0 S1 SX SM T : dg_S} {x x' c v : Int} {a a1 a2 a3 a4 y : Int32}
theorem cx_0_image (h : cx_0 o g x S) (hg : rX g) : ∃ (S1 : dg_S) (y : Int32), F_d_image o S = (S1, y) ∧ y.toInt = 16 ∧ cx_wl s_j9 S1 ∧ k_im S S1 := by
  have z0 : (0 : Int32).toInt = 0 := by decide +kernel
  have z10 : (10 : Int32).toInt = 10 := by decide +kernel
  have z233 : (233 : Int32).toInt = 233 := by decide +kernel
  have le0 : (0 : Int32) ≤ (0 : Int32) := by decide +kernel
  have sep := rX_sep hg
  obtain ⟨S2, e2⟩ : ∃ X, X = dg_uF S 182 1 (.int (0 : Int32)) := ⟨_, rfl⟩
  obtain ⟨S4, e4⟩ : ∃ X, X = dg_uF S2 182 3 (.int (233 : Int32)) := ⟨_, rfl⟩
  have k4 : k_im S S4 := by
    rw [e4, e2]
    exact kp.uF (kp.uF kp.rf ⟨rfl, Or.inl rfl⟩) ⟨rfl, Or.inr rfl⟩
  have l4 : cx_wl [] S4 := by
    refine ⟨⟨?_, by decide⟩, ?_, fun i hi => absurd hi (Nat.not_lt_zero i)⟩
    · rw [e4, w_I0 (by decide), e2, w_I, if_pos ⟨rfl, rfl⟩]
      exact z0
    · rw [e4, w_I, if_pos ⟨rfl, rfl⟩]
      exact z233
  have p0 : zI S 3 0 = 0 := h.2.2.1.1
  have p1 : zI S 3 1 = 0 := h.2.2.1.2.1
  have b1 : (zI S 3 0 >>> ((8 : Int32) &&& 31)).toInt = 0 := by rw [p0]; decide +kernel
  have b2 : (zI S 3 0 &&& (255 : Int32)).toInt = 0 := by rw [p0]; decide +kernel
  have c1 : (zI S 3 1 >>> ((16 : Int32) &&& 31)).toInt = 0 := by rw [p1]; decide +kernel
  have c3 : (zI S 3 1 >>> ((8 : Int32) &&& 31) &&& (255 : Int32)).toInt = 0 := by rw [p1]; decide +kernel
  have c4 : (zI S 3 1 &&& (255 : Int32)).toInt = 0 := by rw [p1]; decide +kernel
  obtain ⟨S7, e7, l7, k7⟩ := cx_iput (o := o) l4 (by decide) b1 (by decide)
  obtain ⟨S9, e9, l9, k9⟩ := cx_iput (o := o) l7 (by show 1 < 124; decide) b2 (by decide)
  obtain ⟨S12, e12, l12, k12⟩ := cx_iput (o := o) l9 (by show 2 < 124; decide) c1 (by decide)
  obtain ⟨S15, e15, l15, k15⟩ := cx_iput (o := o) l12 (by show 3 < 124; decide) c3 (by decide)
  obtain ⟨S17, e17, l17, k17⟩ := cx_iput (o := o) l15 (by show 4 < 124; decide) c4 (by decide)
  have l17 : cx_wl [0, 0, 0, 0, 0] S17 := l17
  have t17 : k_im S S17 := (((((k4.tr k7).tr k9).tr k12).tr k15).tr k17)
  have ei : ∀ T, k_im S T → ∀ b, zI T g b = zI S g b := fun T k b => k.I (fun z => by omega)
  rw [F_d_image_p0 h.1.symm rfl rfl, F_i_write_p7 e2 e4 rfl rfl e7.symm rfl e9.symm, F_i_write_p6 rfl rfl e12.symm rfl rfl e15.symm rfl e17.symm, lp_sr (F_i_write_p4 rfl (by rw [h.2.1.2.1]; exact le0))]
  obtain ⟨T1, g1, g2, g3⟩ := cx_putAll (o := o) (f9 := F_i_putAll_hurts_B1 (zI S g 6) 0 3 o) (z := S17) (N := (7 - ((0 : Int32)).toInt).toNat + 1) (q := 3 + 2) (n := 0) (p := 0) (f := fun _ => 0) (fun x T h => F_i_putAll_hurts_p0 h) (fun x T h => F_i_putAll_hurts_p1 h rfl rfl rfl rfl) (by decide) l17 (by rw [h.2.1.2.2.1]; exact z0) (by rw [z0]; decide) (by decide) z0 (by decide) (fun i hi => absurd hi (Nat.not_lt_zero i))
  have g2 : cx_wl [0, 0, 0, 0, 0] T1 := g2
  have kT1 : k_im S T1 := t17.tr g3
  rw [F_i_write_p3 rfl (g1.symm.trans (F_i_putAll_hurts_p2).symm), lp_sr (F_i_write_p1 rfl (by rw [h.2.1.2.2.2.1]; exact le0))]
  obtain ⟨T3, u1, u2, u3⟩ := cx_putAll (o := o) (f9 := F_i_putAll_sold_B1 (zI S g 11) 0 3 o) (z := T1) (N := (6 - ((0 : Int32)).toInt).toNat + 1) (q := 3 + 5) (n := 0) (p := 0) (f := fun _ => 0) (fun x T h => F_i_putAll_sold_p0 h) (fun x T h => F_i_putAll_sold_p1 h rfl rfl rfl rfl) (by decide) g2 (by rw [h.2.1.2.2.2.2]; exact z0) (by rw [z0]; decide) (by decide) z0 (by decide) (fun i hi => absurd hi (Nat.not_lt_zero i))
  have u2 : cx_wl [0, 0, 0, 0, 0] T3 := u2
  have kT3 : k_im S T3 := kT1.tr u3
  obtain ⟨T4, x1, x2, x3⟩ := cx_putAll (o := o) (f9 := F_i_putAll_tubs_B1 10 0 3 o) (z := T3) (N := (11 - ((0 : Int32)).toInt).toNat + 1) (q := 3 + 6) (n := 10) (p := 0) (f := fun _ => 0) (fun x T h => F_i_putAll_tubs_p0 h) (fun x T h => F_i_putAll_tubs_p1 h rfl rfl rfl rfl) (by decide) u2 z10 (by rw [z0]; decide) (by decide) z0 (by decide) (fun i hi => by
    rw [(kT3.2 (3 + 6) (by decide)).1, show (3 + 6 : Nat) = 9 from rfl, h.2.2.1.2.2.2]
    exact ⟨z0, by decide, by decide⟩)
  have x2 : cx_wl s_i9 T4 := x2
  have kT4 : k_im S T4 := kT3.tr x3
  have cb := s_cn_b (l := s_i9) s_i9.length
  obtain ⟨T5, y1, y2, y3⟩ := cx_iput (o := o) (a1 := zI T4 182 3) x2 (by show 15 < 124; decide) x2.2.1 (by omega)
  rw [F_i_write_p0 rfl (u1.symm.trans (F_i_putAll_sold_p2).symm) (x1.symm.trans (F_i_putAll_tubs_p2).symm) rfl y1.symm]
  exact ⟨T5, _, rfl, y2.1.1, y2, kT4.tr y3⟩
theorem k_in.m0 (h : mx_0 x S) (t : k_in S S1) : mx_0 x S1 := by
  obtain ⟨h1, ⟨h2, h3, h8, h9, h12⟩, ⟨h29, h30, h33, h38, h37⟩, h61, hx⟩ := h
  have e13 : zI S1 0 13 = zI S 0 13 := t.I (by decide)
  refine ⟨by rw [t.I (by decide)]; exact h1, ⟨?_, ?_, ?_, ?_, ?_⟩, ⟨?_, ?_, ?_, ?_, fun k => ?_⟩, by rw [t.I (by decide)]; exact h61, by rw [t.L (by decide)]; exact hx⟩
  · rw [e13, (t.2 2 (by decide)).1]; exact h2
  · rw [e13, (t.2 3 (by decide)).1]; exact h3
  · rw [e13, (t.2 8 (by decide)).1]; exact h8
  · rw [e13, (t.2 9 (by decide)).1]; exact h9
  · rw [e13, (t.2 12 (by decide)).1]; exact h12
  · rw [(t.2 29 (by decide)).1]; exact h29
  · rw [(t.2 30 (by decide)).1]; exact h30
  · rw [(t.2 33 (by decide)).1]; exact h33
  · rw [(t.2 38 (by decide)).1]; exact h38
  · rw [(t.2 37 (by decide)).1]; exact h37 k
theorem mx_0_image (h : mx_0 x S) : ∃ (S1 : dg_S) (y : Int32), F_m_image o S = (S1, y) ∧ y.toInt = 16 ∧ mx_wl s_j9 S1 ∧ k_in S S1 := by
  have z0 : (0 : Int32).toInt = 0 := by decide +kernel
  have z64 : (64 : Int32).toInt = 64 := by decide +kernel
  have n0 : (0 : Int32).toNatClampNeg = 0 := by decide +kernel
  have le0 : (0 : Int32) ≤ (0 : Int32) := by decide +kernel
  obtain ⟨S2, e2⟩ : ∃ X, X = dg_uF S 0 76 (.int (0 : Int32)) := ⟨_, rfl⟩
  have k2 : k_in S S2 := by
    rw [e2]
    exact kp.uF kp.rf ⟨rfl, rfl⟩
  have l2 : mx_wl [] S2 := ⟨⟨by rw [e2, w_I, if_pos ⟨rfl, rfl⟩]; exact z0, by decide⟩, fun i hi => absurd hi (Nat.not_lt_zero i)⟩
  have p0 : S2.2.1 29 (0 : Int32).toNatClampNeg = 0 := by rw [n0]; exact (k_in.m0 h k2).2.2.1.1
  obtain ⟨S7, e7, l7, k7⟩ := mx_iput (o := o) (a1 := S2.2.1 29 (0 : Int32).toNatClampNeg >>> ((8 : Int32) &&& 31)) (v := 0) l2 (by decide) (by rw [p0]; decide +kernel)
  obtain ⟨S12, e12, l12, k12⟩ := mx_iput (o := o) (a1 := S2.2.1 29 (0 : Int32).toNatClampNeg) (v := 0) l7 (by show 1 < 124; decide) (by rw [p0]; decide +kernel)
  have t12 : k_in S S12 := (k2.tr k7).tr k12
  obtain ⟨x15, h15⟩ : ∃ u : Int32, u = S12.2.1 30 (0 : Int32).toNatClampNeg := ⟨_, rfl⟩
  have p1 : x15 = 0 := by rw [h15, n0]; exact (k_in.m0 h t12).2.2.1.2.1
  obtain ⟨S17, e17, l17, k17⟩ := mx_iput (o := o) (a1 := x15 >>> ((16 : Int32) &&& 31)) (v := 0) l12 (by show 2 < 124; decide) (by rw [p1]; decide +kernel)
  obtain ⟨S22, e22, l22, k22⟩ := mx_iput (o := o) (a1 := x15 >>> ((8 : Int32) &&& 31)) (v := 0) l17 (by show 3 < 124; decide) (by rw [p1]; decide +kernel)
  obtain ⟨S26, e26, l26, k26⟩ := mx_iput (o := o) (a1 := x15) (v := 0) l22 (by show 4 < 124; decide) (by rw [p1]; decide +kernel)
  have l26 : mx_wl [0, 0, 0, 0, 0] S26 := l26
  have t26 : k_in S S26 := ((t12.tr k17).tr k22).tr k26
  have m26 := k_in.m0 h t26
  have e13 : zI S 0 13 = zI S26 0 13 := (t26.I (by decide)).symm
  have cells : lp (F_m_image_B12 S o) (S, (0 : Int32)) ((65 - ((0 : Int32)).toInt).toNat + 1) ((0 : Int32), zI S26 0 76, S26) = F_m_image_J2 S o (zI S26 0 76) S26 :=
    lp_cnt (f := F_m_image_B12 S o) (z := (S, (0 : Int32))) (W := 64) (P := fun _ s => s = (zI S26 0 76, S26)) (Q := fun q => q = F_m_image_J2 S o (zI S26 0 76) S26) (by decide) (fun c cI s hc hcI hP => by
      rw [hP]
      exact ⟨_, F_m_image_p18 (fun z => by have := dk_gec z64 z; omega) rfl m26.cellOf rfl, rfl⟩) (fun cI s hcI hP => by
      rw [hP]
      exact ⟨_, F_m_image_p17 (dk_gep z64 (by omega)), rfl⟩) ((65 - ((0 : Int32)).toInt).toNat + 1) 0 0 (zI S26 0 76, S26) (by rw [z0]; decide) (by decide) z0 rfl
  obtain ⟨T5, v1', v2', v3'⟩ := mx_imT (o := o) (S9 := S) (f := fun _ => 0) (fun k hk => by
    rw [m26.2.2.1.2.2.2.2]
    exact ⟨z0, by decide, by decide⟩) l26 (by decide) rfl
  have v2' : mx_wl s_j9 T5 := v2'
  refine ⟨T5, zI T5 0 76, ?_, v2'.1.1, v2', t26.tr v3'⟩
  rw [F_m_image_p22 e2 rfl rfl e7.symm e12.symm h15 rfl e17.symm, F_m_image_p21 rfl e22.symm e26.symm rfl, cells, F_m_image_p16, lp_sr (F_m_image_p13 rfl rfl (by rw [e13, m26.2.1.2.2.1]; exact le0)), F_m_image_p12, lp_sr (F_m_image_p10 rfl rfl (by rw [e13, m26.2.1.2.2.2.1]; exact le0)), F_m_image_p9, lp_sr (F_m_image_p6 rfl rfl (by rw [e13, m26.2.1.2.2.2.2]; exact le0))]
  exact v1'
end FC
end
section
/-! a mine begins: the class -/
def s_bg (G : aR) : aR := fun a b => if a = 1 then (if (b : Int) = G 0 2 then -1 else G 1 b) else if a = 3 then G 5 b else if a = 4 then G 6 b else 0
section FD
variable {o oX oM g n p k i : Nat} {G A A' : aR} {K : Nat → List Int} {L L' : s_L} {U : s_U} {S S0 S1 SX SM T : dg_S} {x x' r c v t : Int} {a a1 a2 a3 a4 y : Int32}
theorem s_bg_0 {b : Nat} : s_bg G 0 b = 0 := rfl
theorem s_bg_2 {b : Nat} : s_bg G 2 b = 0 := rfl
theorem s_bg_3 {b : Nat} : s_bg G 3 b = G 5 b := rfl
theorem s_bg_4 {b : Nat} : s_bg G 4 b = G 6 b := rfl
theorem s_bg_5 {b : Nat} : s_bg G 5 b = 0 := rfl
theorem s_bg_6 {b : Nat} : s_bg G 6 b = 0 := rfl
theorem s_bg_c (hc : s_in G c) : s_c (s_bg G) c = if c = G 0 2 then -1 else G 1 c.toNat := by
  have c0 := hc.1
  show (if ((c.toNat : Nat) : Int) = G 0 2 then (-1 : Int) else G 1 c.toNat) = _
  rw [show ((c.toNat : Nat) : Int) = c by omega]
theorem s_bg_ok (hG : s_gx G) (hK : s_cd K) : s_ok G K (s_bg G) [] := by
  have h5 := hG.2.2.2.1
  obtain ⟨⟨⟨g1, g2⟩, g3, g4⟩, ⟨s1, s2⟩, -⟩ := hG.1
  refine ⟨hG, hK, ⟨⟨⟨by rw [s_bg_0]; decide, by rw [s_bg_0]; decide⟩, ⟨by rw [s_bg_0]; decide, by rw [s_bg_0]; decide⟩, fun k _ => Or.inl rfl, fun k hk => ?_, fun k _ => Or.inl rfl, fun k _ => ⟨by rw [s_bg_6]; decide, by rw [s_bg_6]; decide⟩⟩, fun d hd => ?_, ?_⟩, fun i e h => ?_⟩
  · obtain ⟨w1, w2⟩ := hG.2.2.2.2.2.2.1 k hk
    rw [s_bg_3, s_bg_4]
    exact ⟨⟨w1.1, by omega⟩, w2⟩
  · rw [s_bg_c hd]
    have := hG.2.2.2.2.2.1 d hd
    split <;> omega
  · have hin : s_in G (G 0 2) := ⟨by omega, by omega, by omega⟩
    refine ⟨hin, ?_⟩
    rw [s_bg_c hin, if_pos rfl]
  · exact absurd h (by simp)
theorem cx_begin (hg : cx_g G K S g) (hG : s_gx G) (hp : pX p) : ∃ S1, F_p_begin o S p g = S1 ∧ k_pt p S S1 ∧ cx_pit G (s_bg G) S1 p := by
  have z0 : (0 : Int32).toInt = 0 := by decide +kernel
  have z8 : (8 : Int32).toInt = 8 := by decide +kernel
  have z100 : (100 : Int32).toInt = 100 := by decide +kernel
  have z255 : (255 : Int32).toInt = 255 := by decide +kernel
  have n0 : (0 : Int32).toNatClampNeg = 0 := by decide +kernel
  have n16 : (16 : Int32).toNatClampNeg = 16 := by decide +kernel
  have sep := rX_sep hg.1.1
  have p17 := pX_17 hp
  obtain ⟨⟨rg, f2, f8, -⟩, ⟨f0, f1, -⟩, hc, hpl, -⟩ := hg
  have hgb := hG.1.1
  have hG1 := hG.1.2
  obtain ⟨R, hR⟩ : ∃ R : Nat, (R : Int) = G 0 1 := ⟨(G 0 1).toNat, by omega⟩
  obtain ⟨C, hC⟩ : ∃ C : Nat, (C : Int) = G 0 0 := ⟨(G 0 0).toNat, by omega⟩
  obtain ⟨S2, e2⟩ : ∃ X, X = dg_uF S p 0 (.int (0 : Int32)) := ⟨_, rfl⟩
  obtain ⟨S4, e4⟩ : ∃ X, X = dg_uF S2 p 1 (.int (0 : Int32)) := ⟨_, rfl⟩
  obtain ⟨S6, e6⟩ : ∃ X, X = dg_uf S4 (p + 1) (dk_fl (S4.2.1 (p + 1)) (100 : Int32) 72) := ⟨_, rfl⟩
  have t6 : kp (fun a b => a = p ∧ b < 2) (fun a => a = p + 1) S S6 := by
    rw [e6, e4, e2]
    exact kp.uf (kp.uF (kp.uF kp.rf ⟨rfl, by decide⟩) ⟨rfl, by decide⟩) rfl
  have eg : ∀ T, kp (fun a b => a = p ∧ b < 2) (fun a => a = p + 1) S T → T.2.1 (g + 1) = S.2.1 (g + 1) := fun T t => (t.2 (g + 1) (by omega)).1
  have eI : ∀ T b, kp (fun a b => a = p ∧ b < 2) (fun a => a = p + 1) S T → zI T g b = zI S g b := fun T b t => t.I (by omega)
  rw [F_p_begin_p6 rfl rfl e2 e4 rfl e6]
  have main := lp_cnt (f := F_p_begin_B4 S g o p (zI S g 2) (zI S g 0)) (z := S) (W := R) (P := fun r T => kp (fun a b => a = p ∧ b < 2) (fun a => a = p + 1) S T ∧ (zI T p 0 = 0 ∧ zI T p 1 = 0) ∧ ∀ j, j < 72 → T.2.1 (p + 1) j = if 8 ≤ j ∧ (j - 8) / 8 < r ∧ (j - 8) % 8 < C then S.2.1 (g + 1) j else 100) (Q := fun q => ∃ T, q = F_p_begin_J1 o T g p (zI S g 2) ∧ kp (fun a b => a = p ∧ b < 2) (fun a => a = p + 1) S T ∧ (zI T p 0 = 0 ∧ zI T p 1 = 0) ∧ ∀ j, j < 72 → T.2.1 (p + 1) j = if 8 ≤ j ∧ (j - 8) / 8 < R ∧ (j - 8) % 8 < C then S.2.1 (g + 1) j else 100) (by omega) (fun r rI T hr hrI hP => by
    obtain ⟨t1, t2, t3⟩ := hP
    have e8 : ((8 : Int32) * rI).toInt = 8 * (r : Int) := dk_mulT z8 hrI (by omega) (by omega)
    have e88 : ((8 : Int32) * rI + (8 : Int32)).toInt = 8 * (r : Int) + 8 := dk_addT e8 z8 (by omega) (by omega)
    have n88 : ((8 : Int32) * rI + (8 : Int32)).toNatClampNeg = 8 * r + 8 := by rw [dk_clN, e88]; omega
    have nC : (zI S g 0).toNatClampNeg = C := by rw [dk_clN, f0]; omega
    refine ⟨_, F_p_begin_p5 rfl (fun z => by have := w_le.mp z; rw [f1] at this; omega) rfl rfl rfl rfl, kp.uf t1 rfl, t2, fun j hj => ?_⟩
    rw [w_f, if_pos rfl, n88, nC, eg T t1]
    unfold va_cpy
    by_cases q : 8 * r + 8 ≤ j ∧ j < 8 * r + 8 + C
    · rw [if_pos q, if_pos (by omega), show 8 * r + 8 + (j - (8 * r + 8)) = j by omega]
    · rw [if_neg q, t3 j hj]
      by_cases q2 : 8 ≤ j ∧ (j - 8) / 8 < r ∧ (j - 8) % 8 < C
      · rw [if_pos q2, if_pos (by omega)]
      · rw [if_neg q2, if_neg (by omega)]) (fun rI T hrI hP => ⟨_, F_p_begin_p4 rfl (w_le.mpr (by rw [f1]; omega)), T, rfl, hP⟩) ((8 - ((0 : Int32)).toInt).toNat + 1) 0 0 S6 (by rw [z0]; omega) (by omega) z0 ⟨t6, ⟨by rw [e6]; show zI S4 p 0 = 0; rw [e4, w_I0 (by omega), e2, w_I, if_pos ⟨rfl, rfl⟩], by rw [e6]; show zI S4 p 1 = 0; rw [e4, w_I, if_pos ⟨rfl, rfl⟩]⟩, fun j hj => by
    rw [e6, w_f, if_pos rfl, if_neg (by omega)]
    unfold dk_fl
    rw [if_pos hj]⟩
  obtain ⟨T, eT, tT, ⟨i0, i1⟩, rT⟩ := main
  have hseam : ¬ F_g_hasSeam o T g = (0 : Int32) := by
    rw [F_g_hasSeam_p1 rfl (fun z => by have := dk_lec (k := 0) (by decide +kernel) z; rw [eI T 0 tT, f0] at this; omega)]
    decide +kernel
  obtain ⟨S7, e7⟩ : ∃ X, X = dg_uf T (p + 1) (upd (T.2.1 (p + 1)) (zI S g 2).toNatClampNeg (255 : Int32)) := ⟨_, rfl⟩
  obtain ⟨S8, e8⟩ : ∃ X, X = dg_uf S7 (p + 2) (dk_fl (S7.2.1 (p + 2)) (0 : Int32) 6) := ⟨_, rfl⟩
  obtain ⟨S9, e9⟩ : ∃ X, X = dg_uf S8 (p + 3) (va_cpy (S8.2.1 (g + 3)) (S8.2.1 (p + 3)) (0 : Int32).toNatClampNeg (0 : Int32).toNatClampNeg (16 : Int32).toNatClampNeg) := ⟨_, rfl⟩
  obtain ⟨S10, e10⟩ : ∃ X, X = dg_uf S9 (p + 4) (va_cpy (S9.2.1 (g + 4)) (S9.2.1 (p + 4)) (0 : Int32).toNatClampNeg (0 : Int32).toNatClampNeg (16 : Int32).toNatClampNeg) := ⟨_, rfl⟩
  obtain ⟨S11, e11⟩ : ∃ X, X = dg_uf S10 (p + 5) (dk_fl (S10.2.1 (p + 5)) (0 : Int32) 5) := ⟨_, rfl⟩
  obtain ⟨S12, e12⟩ : ∃ X, X = dg_uf S11 (p + 6) (dk_fl (S11.2.1 (p + 6)) (0 : Int32) 10) := ⟨_, rfl⟩
  rw [eT, F_p_begin_p3 rfl hseam e7, F_p_begin_p1 rfl e8 e9 e10 rfl e11, F_p_begin_p0 rfl e12]
  have ro : ∀ q, q ≠ p + 1 → q ≠ p + 2 → q ≠ p + 3 → q ≠ p + 4 → q ≠ p + 5 → q ≠ p + 6 → S12.2.1 q = T.2.1 q := fun q h1 h2 h3 h4 h5 h6 => by
    rw [e12, w_f, if_neg h6, e11, w_f, if_neg h5, e10, w_f, if_neg h4, e9, w_f, if_neg h3, e8, w_f, if_neg h2, e7, w_f, if_neg h1]
  have zi : ∀ a b, zI S12 a b = zI T a b := fun a b => by
    rw [e12, e11, e10, e9, e8, e7]
    rfl
  have w1 : S12.2.1 (p + 1) = upd (T.2.1 (p + 1)) (zI S g 2).toNatClampNeg (255 : Int32) := by
    rw [e12, w_f, if_neg (show ¬ p + 1 = p + 6 by omega), e11, w_f, if_neg (show ¬ p + 1 = p + 5 by omega), e10, w_f, if_neg (show ¬ p + 1 = p + 4 by omega), e9, w_f, if_neg (show ¬ p + 1 = p + 3 by omega), e8, w_f, if_neg (show ¬ p + 1 = p + 2 by omega), e7, w_f, if_pos rfl]
  have w2 : ∀ k, k < 6 → S12.2.1 (p + 2) k = 0 := fun k hk => by
    rw [e12, w_f, if_neg (show ¬ p + 2 = p + 6 by omega), e11, w_f, if_neg (show ¬ p + 2 = p + 5 by omega), e10, w_f, if_neg (show ¬ p + 2 = p + 4 by omega), e9, w_f, if_neg (show ¬ p + 2 = p + 3 by omega), e8, w_f, if_pos rfl]
    unfold dk_fl
    rw [if_pos hk]
  have w3 : ∀ k, k < 16 → S12.2.1 (p + 3) k = S.2.1 (g + 3) k := fun k hk => by
    rw [e12, w_f, if_neg (show ¬ p + 3 = p + 6 by omega), e11, w_f, if_neg (show ¬ p + 3 = p + 5 by omega), e10, w_f, if_neg (show ¬ p + 3 = p + 4 by omega), e9, w_f, if_pos rfl, n0, n16, va_c0, if_pos hk, e8, w_f, if_neg (show ¬ g + 3 = p + 2 by omega), e7, w_f, if_neg (show ¬ g + 3 = p + 1 by omega), (tT.2 (g + 3) (by omega)).1]
  have w4 : ∀ k, k < 16 → S12.2.1 (p + 4) k = S.2.1 (g + 4) k := fun k hk => by
    rw [e12, w_f, if_neg (show ¬ p + 4 = p + 6 by omega), e11, w_f, if_neg (show ¬ p + 4 = p + 5 by omega), e10, w_f, if_pos rfl, n0, n16, va_c0, if_pos hk, e9, w_f, if_neg (show ¬ g + 4 = p + 3 by omega), e8, w_f, if_neg (show ¬ g + 4 = p + 2 by omega), e7, w_f, if_neg (show ¬ g + 4 = p + 1 by omega), (tT.2 (g + 4) (by omega)).1]
  have w5 : ∀ k, k < 5 → S12.2.1 (p + 5) k = 0 := fun k hk => by
    rw [e12, w_f, if_neg (show ¬ p + 5 = p + 6 by omega), e11, w_f, if_pos rfl]
    unfold dk_fl
    rw [if_pos hk]
  have w6 : ∀ k, k < 10 → S12.2.1 (p + 6) k = 0 := fun k hk => by
    rw [e12, w_f, if_pos rfl]
    unfold dk_fl
    rw [if_pos hk]
  refine ⟨S12, rfl, ?_, fun x0 hx0 hx1 => ?_, by rw [zi, i0]; exact z0, by rw [zi, i1]; exact z0, fun k hk => by rw [w2 k hk]; exact z0, fun k hk => ?_, fun k hk => by rw [w5 k hk]; exact z0, fun k hk => by rw [w6 k hk]; exact z0⟩
  · rw [e12, e11, e10, e9, e8, e7]
    have tw : k_pt p S T := tT.w (fun a b z => by omega) (fun a z => by omega)
    exact kp.uf (kp.uf (kp.uf (kp.uf (kp.uf (kp.uf tw (by omega)) (by omega)) (by omega)) (by omega)) (by omega)) (by omega)
  · obtain ⟨j, hj⟩ : ∃ j : Nat, x0 = j := ⟨x0.toNat, by omega⟩
    subst hj
    have sn : (zI S g 2).toNatClampNeg = (G 0 2 + 8).toNat := by rw [dk_clN, f2]
    have ev : cx_at S12 p (j : Int) = (if j = (G 0 2 + 8).toNat then (255 : Int32) else if 8 ≤ j ∧ (j - 8) / 8 < R ∧ (j - 8) % 8 < C then S.2.1 (g + 1) j else 100).toInt := by
      unfold cx_at
      rw [show ((j : Int)).toNat = j by omega, w1, w_u, sn, rT j (by omega)]
    refine ⟨fun hin => ?_, fun hn => ?_⟩
    · have hin0 := hin.1
      have hin1 := hin.2
      have e1 : S.2.1 (g + 1) j = S.2.1 (g + 1) ((j : Int) - 8 + 8).toNat := by rw [show ((j : Int) - 8 + 8).toNat = j by omega]
      have gv := hc _ hin
      rw [← e1] at gv
      have gb := hG.2.2.2.2.2.1 _ hin
      rw [ev, s_bg_c hin]
      by_cases q : (j : Int) - 8 = G 0 2
      · rw [if_pos (by omega), if_pos q, z255]
        exact ⟨rfl, by decide, by decide⟩
      · rw [if_neg (by omega), if_pos (by omega), if_neg q, gv]
        refine ⟨?_, by omega, by omega⟩
        unfold cx_en
        rw [if_neg (by omega), if_neg (by omega)]
    · rw [ev, if_neg (fun z => hn ⟨by omega, by omega, by omega⟩), if_neg (fun z => hn ⟨by omega, by omega, by omega⟩), z100]
  · have h6 := hG.1.2.2
    obtain ⟨q3, q4⟩ := hpl k hk
    rw [w3 k (by omega), w4 k (by omega), s_bg_3, s_bg_4]
    exact ⟨q3, q4⟩
end FD
end
section
/-! a mine begins: the reference -/
section FE
variable {o oX oM g n p k i : Nat} {G A A' : aR} {K : Nat → List Int} {L L' : s_L} {U : s_U} {S S0 S1 SX SM T : dg_S} {x x' r c v t : Int} {a a1 a2 a3 a4 y : Int32}
theorem mx_bit0 : ∀ k, k < 6 → mx_bit 0 k = 0 := by decide +kernel
/-- what begin writes -/
def k_bg (S S1 : dg_S) : Prop := kp (fun a b => a = 0 ∧ (b = 61 ∨ b = 63 ∨ b = 69)) (fun a => 29 ≤ a ∧ a ≤ 38) S S1
theorem mx_begin (h : mx_gf G K S) (hG : s_gx G) : ∃ S1, F_m_begin o S = S1 ∧ k_bg S S1 ∧ mx_gf G K S1 ∧ mx_lay G (s_bg G) [] S1 0 ∧ (zI S1 0 63).toInt = G 0 3 ∧ (zI S1 0 61).toInt = 0 ∧ (zI S1 0 69).toInt = 0 := by
  have z0 : (0 : Int32).toInt = 0 := by decide +kernel
  have z10 : (10 : Int32).toInt = 10 := by decide +kernel
  have z16 : (16 : Int32).toInt = 16 := by decide +kernel
  have z64 : (64 : Int32).toInt = 64 := by decide +kernel
  have m1 : (-1 : Int32).toInt = -1 := by decide +kernel
  have n0 : (0 : Int32).toNatClampNeg = 0 := by decide +kernel
  have h6 := hG.1.2.2
  obtain ⟨⟨g1, b, hb, hbk, -⟩, ⟨q5, -⟩, q7, q10, -⟩ := id h
  have f4 : (S.2.1 4 (zI S 0 13).toNatClampNeg).toInt = G 0 2 := g1.2.2.2.1
  have bn : (zI S 0 13).toNatClampNeg = b := by rw [dk_clN]; omega
  rw [bn] at q7 q10
  obtain ⟨S2, e2⟩ : ∃ X, X = dg_uf S 29 (upd (S.2.1 29) (0 : Int32).toNatClampNeg (0 : Int32)) := ⟨_, rfl⟩
  obtain ⟨S6, e6⟩ : ∃ X, X = dg_uf S2 30 (upd (S2.2.1 30) (0 : Int32).toNatClampNeg (0 : Int32)) := ⟨_, rfl⟩
  obtain ⟨S10, e10⟩ : ∃ X, X = dg_uf S6 33 (upd (S6.2.1 33) (0 : Int32).toNatClampNeg (0 : Int32)) := ⟨_, rfl⟩
  obtain ⟨S14, e14⟩ : ∃ X, X = dg_uf S10 34 (upd (S10.2.1 34) (0 : Int32).toNatClampNeg (0 : Int32)) := ⟨_, rfl⟩
  have t14 : kp (fun _ _ => False) (fun a => a = 29 ∨ a = 30 ∨ a = 33 ∨ a = 34) S S14 := by
    rw [e14, e10, e6, e2]
    exact kp.uf (kp.uf (kp.uf (kp.uf kp.rf (Or.inl rfl)) (Or.inr (Or.inl rfl))) (Or.inr (Or.inr (Or.inl rfl)))) (Or.inr (Or.inr (Or.inr rfl)))
  have v29 : S14.2.1 29 0 = 0 := by
    rw [e14, w_f, if_neg (show ¬ (29 : Nat) = 34 by decide), e10, w_f, if_neg (show ¬ (29 : Nat) = 33 by decide), e6, w_f, if_neg (show ¬ (29 : Nat) = 30 by decide), e2, w_f, if_pos rfl, w_u, n0, if_pos rfl]
  have v30 : S14.2.1 30 0 = 0 := by
    rw [e14, w_f, if_neg (show ¬ (30 : Nat) = 34 by decide), e10, w_f, if_neg (show ¬ (30 : Nat) = 33 by decide), e6, w_f, if_pos rfl, w_u, n0, if_pos rfl]
  have v33 : S14.2.1 33 0 = 0 := by
    rw [e14, w_f, if_neg (show ¬ (33 : Nat) = 34 by decide), e10, w_f, if_pos rfl, w_u, n0, if_pos rfl]
  have v34 : S14.2.1 34 0 = 0 := by
    rw [e14, w_f, if_pos rfl, w_u, n0, if_pos rfl]
  rw [F_m_begin_p13 e2 e6 e10 e14, F_m_begin_p12]
  -- the cells
  have cells := lp_cnt (f := F_m_begin_B8 S) (z := S) (W := 64) (P := fun c T => kp (fun _ _ => False) (fun a => a = 31 ∨ a = 32) S14 T ∧ ∀ j, j < c → (T.2.1 31 j).toInt = (if (j : Int) = G 0 2 then -1 else (S.2.1 7 (64 * b + j)).toInt) ∧ T.2.1 32 j = 0) (Q := fun q => ∃ T, q = F_m_begin_J2 S T ∧ kp (fun _ _ => False) (fun a => a = 31 ∨ a = 32) S14 T ∧ ∀ j, j < 64 → (T.2.1 31 j).toInt = (if (j : Int) = G 0 2 then -1 else (S.2.1 7 (64 * b + j)).toInt) ∧ T.2.1 32 j = 0) (by decide) (fun c cI T hc hcI hP => by
    obtain ⟨t1, t2⟩ := hP
    have q0 : ¬ (64 : Int32) ≤ cI := fun z => by have := dk_gec z64 z; omega
    have cn : cI.toNatClampNeg = c := by rw [dk_clN]; omega
    have r4 : T.2.1 4 = S.2.1 4 := ((t1.2 4 (by decide)).1).trans (t14.2 4 (by decide)).1
    have r7 : T.2.1 7 = S.2.1 7 := ((t1.2 7 (by decide)).1).trans (t14.2 7 (by decide)).1
    have fin : ∀ w : Int32, w.toInt = (if (c : Int) = G 0 2 then -1 else (S.2.1 7 (64 * b + c)).toInt) → F_m_begin_B8 S (cI, T) = F_m_begin_J9 T cI w → ∃ s1, F_m_begin_B8 S (cI, T) = .inl (cI + 1, s1) ∧ kp (fun _ _ => False) (fun a => a = 31 ∨ a = 32) S14 s1 ∧ ∀ j, j < c + 1 → (s1.2.1 31 j).toInt = (if (j : Int) = G 0 2 then -1 else (S.2.1 7 (64 * b + j)).toInt) ∧ s1.2.1 32 j = 0 := fun w hw e => by
      obtain ⟨X1, x1⟩ : ∃ X, X = dg_uf T 31 (upd (T.2.1 31) cI.toNatClampNeg w) := ⟨_, rfl⟩
      obtain ⟨X2, x2⟩ : ∃ X, X = dg_uf X1 32 (upd (X1.2.1 32) cI.toNatClampNeg (0 : Int32)) := ⟨_, rfl⟩
      refine ⟨X2, e.trans (F_m_begin_p9 x1 x2 rfl), ?_, fun j hj => ?_⟩
      · rw [x2, x1]
        exact kp.uf (kp.uf t1 (Or.inl rfl)) (Or.inr rfl)
      · have y31 : X2.2.1 31 j = if j = c then w else T.2.1 31 j := by
          rw [x2, w_f, if_neg (show ¬ (31 : Nat) = 32 by decide), x1, w_f, if_pos rfl, w_u, cn]
        have y32 : X2.2.1 32 j = if j = c then 0 else T.2.1 32 j := by
          rw [x2, w_f, if_pos rfl, w_u, cn, x1, w_f, if_neg (show ¬ (32 : Nat) = 31 by decide)]
        rw [y31, y32]
        by_cases q : j = c
        · rw [if_pos q, if_pos q, q]
          exact ⟨hw, rfl⟩
        · rw [if_neg q, if_neg q]
          exact t2 j (by omega)
    by_cases q : cI = T.2.1 4 (zI S 0 13).toNatClampNeg
    · have d := w_eq.mp q
      rw [r4, f4, hcI] at d
      exact fin (-1) (by rw [if_pos d]; exact m1) (F_m_begin_p11 q0 rfl rfl q)
    · have d : ¬ (c : Int) = G 0 2 := fun z => q (Int32.toInt_inj.mp (by rw [r4, f4, hcI]; exact z))
      have pl : ((64 : Int32) * zI S 0 13 + cI).toNatClampNeg = 64 * b + c := by
        have e1 : ((64 : Int32) * zI S 0 13).toInt = 64 * (b : Int) := dk_mulT z64 hbk (by omega) (by omega)
        rw [dk_clN, dk_addT e1 hcI (by omega) (by omega)]
        omega
      exact fin _ (by rw [if_neg d, pl, r7]) (F_m_begin_p10 q0 rfl rfl q rfl rfl rfl)) (fun cI T hcI hP => ⟨_, F_m_begin_p8 (dk_gep z64 (by omega)), T, rfl, hP⟩) ((65 - ((0 : Int32)).toInt).toNat + 1) 0 0 S14 (by rw [z0]; decide) (by decide) z0 ⟨kp.rf, fun j hj => absurd hj (Nat.not_lt_zero j)⟩
  obtain ⟨T1, eT1, k1, c1⟩ := cells
  rw [eT1, F_m_begin_p7]
  -- the plan
  have plan := lp_cnt (f := F_m_begin_B7 S) (z := S) (W := 16) (P := fun c T => kp (fun _ _ => False) (fun a => a = 35 ∨ a = 36) T1 T ∧ ∀ j, j < c → T.2.1 35 j = S.2.1 10 (16 * b + j) ∧ T.2.1 36 j = S.2.1 11 (16 * b + j)) (Q := fun q => ∃ T, q = F_m_begin_J3 S T ∧ kp (fun _ _ => False) (fun a => a = 35 ∨ a = 36) T1 T ∧ ∀ j, j < 16 → T.2.1 35 j = S.2.1 10 (16 * b + j) ∧ T.2.1 36 j = S.2.1 11 (16 * b + j)) (by decide) (fun c cI T hc hcI hP => by
    obtain ⟨t1, t2⟩ := hP
    have q0 : ¬ (16 : Int32) ≤ cI := fun z => by have := dk_gec z16 z; omega
    have cn : cI.toNatClampNeg = c := by rw [dk_clN]; omega
    have r10 : T.2.1 10 = S.2.1 10 := (((t1.2 10 (by decide)).1).trans (k1.2 10 (by decide)).1).trans (t14.2 10 (by decide)).1
    have r11 : T.2.1 11 = S.2.1 11 := (((t1.2 11 (by decide)).1).trans (k1.2 11 (by decide)).1).trans (t14.2 11 (by decide)).1
    have pl : ((16 : Int32) * zI S 0 13 + cI).toNatClampNeg = 16 * b + c := by
      have e1 : ((16 : Int32) * zI S 0 13).toInt = 16 * (b : Int) := dk_mulT z16 hbk (by omega) (by omega)
      rw [dk_clN, dk_addT e1 hcI (by omega) (by omega)]
      omega
    obtain ⟨w, hw⟩ : ∃ w : Int32, w = T.2.1 10 ((16 : Int32) * zI S 0 13 + cI).toNatClampNeg := ⟨_, rfl⟩
    obtain ⟨X1, x1⟩ : ∃ X, X = dg_uf T 35 (upd (T.2.1 35) cI.toNatClampNeg w) := ⟨_, rfl⟩
    obtain ⟨w2, hw2⟩ : ∃ w : Int32, w = X1.2.1 11 ((16 : Int32) * zI S 0 13 + cI).toNatClampNeg := ⟨_, rfl⟩
    obtain ⟨X2, x2⟩ : ∃ X, X = dg_uf X1 36 (upd (X1.2.1 36) cI.toNatClampNeg w2) := ⟨_, rfl⟩
    refine ⟨X2, F_m_begin_p6 q0 rfl rfl rfl hw x1 rfl rfl hw2 x2 rfl, ?_, fun j hj => ?_⟩
    · rw [x2, x1]
      exact kp.uf (kp.uf t1 (Or.inl rfl)) (Or.inr rfl)
    · have y35 : X2.2.1 35 j = if j = c then w else T.2.1 35 j := by
        rw [x2, w_f, if_neg (show ¬ (35 : Nat) = 36 by decide), x1, w_f, if_pos rfl, w_u, cn]
      have y36 : X2.2.1 36 j = if j = c then w2 else T.2.1 36 j := by
        rw [x2, w_f, if_pos rfl, w_u, cn, x1, w_f, if_neg (show ¬ (36 : Nat) = 35 by decide)]
      rw [y35, y36]
      by_cases q : j = c
      · rw [if_pos q, if_pos q, q]
        refine ⟨by rw [hw, pl, r10], ?_⟩
        rw [hw2, pl, x1, w_f, if_neg (show ¬ (11 : Nat) = 35 by decide), r11]
      · rw [if_neg q, if_neg q]
        exact t2 j (by omega)) (fun cI T hcI hP => ⟨_, F_m_begin_p5 (dk_gep z16 (by omega)), T, rfl, hP⟩) ((17 - ((0 : Int32)).toInt).toNat + 1) 0 0 T1 (by rw [z0]; decide) (by decide) z0 ⟨kp.rf, fun j hj => absurd hj (Nat.not_lt_zero j)⟩
  obtain ⟨T2, eT2, k2, c2⟩ := plan
  rw [eT2, F_m_begin_p4]
  -- tubs
  have tubs := lp_cnt (f := F_m_begin_B6 S) (z := S) (W := 10) (P := fun c T => kp (fun _ _ => False) (fun a => a = 37) T2 T ∧ ∀ j, j < c → T.2.1 37 j = 0) (Q := fun q => ∃ T, q = F_m_begin_J4 S T ∧ kp (fun _ _ => False) (fun a => a = 37) T2 T ∧ ∀ j, j < 10 → T.2.1 37 j = 0) (by decide) (fun c cI T hc hcI hP => by
    obtain ⟨t1, t2⟩ := hP
    have q0 : ¬ (10 : Int32) ≤ cI := fun z => by have := dk_gec z10 z; omega
    have cn : cI.toNatClampNeg = c := by rw [dk_clN]; omega
    obtain ⟨X1, x1⟩ : ∃ X, X = dg_uf T 37 (upd (T.2.1 37) cI.toNatClampNeg (0 : Int32)) := ⟨_, rfl⟩
    refine ⟨X1, F_m_begin_p3 q0 x1 rfl, by rw [x1]; exact kp.uf t1 rfl, fun j hj => ?_⟩
    rw [x1, w_f, if_pos rfl, w_u, cn]
    by_cases q : j = c
    · rw [if_pos q]
    · rw [if_neg q]
      exact t2 j (by omega)) (fun cI T hcI hP => ⟨_, F_m_begin_p2 (dk_gep z10 (by omega)), T, rfl, hP⟩) ((11 - ((0 : Int32)).toInt).toNat + 1) 0 0 T2 (by rw [z0]; decide) (by decide) z0 ⟨kp.rf, fun j hj => absurd hj (Nat.not_lt_zero j)⟩
  obtain ⟨T3, eT3, k3, c3⟩ := tubs
  have k03 : kp (fun _ _ => False) (fun a => 29 ≤ a ∧ a ≤ 37) S T3 := (((t14.w (fun a b z => z) (fun a z => by omega)).tr (k1.w (fun a b z => z) (fun a z => by omega))).tr (k2.w (fun a b z => z) (fun a z => by omega))).tr (k3.w (fun a b z => z) (fun a z => by omega))
  obtain ⟨Y1, y1⟩ : ∃ X, X = dg_uF T3 0 63 (.int (T3.2.1 5 (zI S 0 13).toNatClampNeg)) := ⟨_, rfl⟩
  obtain ⟨Y2, y2⟩ : ∃ X, X = dg_uf Y1 38 (upd (Y1.2.1 38) (0 : Int32).toNatClampNeg (0 : Int32)) := ⟨_, rfl⟩
  obtain ⟨Y3, y3⟩ : ∃ X, X = dg_uF Y2 0 61 (.int (0 : Int32)) := ⟨_, rfl⟩
  obtain ⟨Y4, y4⟩ : ∃ X, X = dg_uF Y3 0 69 (.int (0 : Int32)) := ⟨_, rfl⟩
  rw [eT3, F_m_begin_p1 rfl rfl y1 y2 y3 y4, F_m_begin_p0]
  have kf : k_bg S Y4 := by
    rw [y4, y3, y2, y1]
    have k0 : k_bg S T3 := k03.w (fun a b z => z.elim) (fun a z => by omega)
    exact kp.uF (kp.uF (kp.uf (kp.uF k0 ⟨rfl, Or.inr (Or.inl rfl)⟩) ⟨by decide, by decide⟩) ⟨rfl, Or.inl rfl⟩) ⟨rfl, Or.inr (Or.inr rfl)⟩
  have row : ∀ q, q ≠ 38 → Y4.2.1 q = T3.2.1 q := fun q hq => by
    rw [y4, y3]
    show Y2.2.1 q = T3.2.1 q
    rw [y2, w_f, if_neg hq, y1]
    rfl
  have r38 : Y4.2.1 38 0 = 0 := by
    rw [y4, y3]
    show Y2.2.1 38 0 = 0
    rw [y2, w_f, if_pos rfl, w_u, n0, if_pos rfl]
  refine ⟨Y4, rfl, kf, h.keep (kf.I (by decide)) (kf.I (by decide)) (fun i hi => (kf.2 i (by omega)).1), ⟨fun c hc => ?_, ?_, ?_, ⟨?_, fun k hk => ?_⟩, fun k hk => ?_, ⟨?_, fun k hk => ?_⟩, fun k hk => ?_, ?_⟩, ?_, ?_, ?_⟩
  · have hc0 := hc.1
    have ad : mx_ad 0 c = c.toNat := by unfold mx_ad; omega
    obtain ⟨d1, d2⟩ := c1 c.toNat (by omega)
    have gv := q7 c hc
    have gb := hG.2.2.2.2.2.1 c hc
    rw [show ((c.toNat : Nat) : Int) = c by omega, gv] at d1
    rw [ad, row 31 (by decide), row 32 (by decide), (k3.2 31 (by decide)).1, (k3.2 32 (by decide)).1, (k2.2 31 (by decide)).1, (k2.2 32 (by decide)).1, d1, d2, s_bg_c hc, z0]
    unfold mx_en mx_cu
    by_cases q : c = G 0 2
    · rw [if_pos q]
      exact ⟨rfl, rfl, by decide, by decide⟩
    · rw [if_neg q, if_neg (by omega), if_neg (by omega)]
      exact ⟨rfl, rfl, by omega, by omega⟩
  · rw [row 29 (by decide), (k3.2 29 (by decide)).1, (k2.2 29 (by decide)).1, (k1.2 29 (by decide)).1, v29]
    exact z0
  · rw [row 30 (by decide), (k3.2 30 (by decide)).1, (k2.2 30 (by decide)).1, (k1.2 30 (by decide)).1, v30]
    exact z0
  · rw [row 33 (by decide), (k3.2 33 (by decide)).1, (k2.2 33 (by decide)).1, (k1.2 33 (by decide)).1, v33, z0]
    decide
  · rw [row 33 (by decide), (k3.2 33 (by decide)).1, (k2.2 33 (by decide)).1, (k1.2 33 (by decide)).1, v33, z0, mx_bit0 k hk]
    rfl
  · obtain ⟨d1, d2⟩ := c2 k (by omega)
    obtain ⟨p1, p2⟩ := q10 k hk
    rw [show 16 * 0 + k = k by omega, row 35 (by decide), row 36 (by decide), (k3.2 35 (by decide)).1, (k3.2 36 (by decide)).1, d1, d2, s_bg_3, s_bg_4]
    exact ⟨p1, p2⟩
  · rw [row 34 (by decide), (k3.2 34 (by decide)).1, (k2.2 34 (by decide)).1, (k1.2 34 (by decide)).1, v34, z0]
    decide
  · rw [row 34 (by decide), (k3.2 34 (by decide)).1, (k2.2 34 (by decide)).1, (k1.2 34 (by decide)).1, v34, z0, mx_bit0 k (by omega)]
    rfl
  · rw [show 10 * 0 + k = k by omega, row 37 (by decide), c3 k hk]
    exact z0
  · exact ⟨by rw [r38]; exact z0, by decide, fun i hi => absurd hi (Nat.not_lt_zero i)⟩
  · rw [y4, w_I0 (by decide), y3, w_I0 (by decide), y2]
    show (zI Y1 0 63).toInt = G 0 3
    rw [y1, w_I, if_pos ⟨rfl, rfl⟩, (k03.2 5 (by decide)).1]
    exact q5
  · rw [y4, w_I0 (by decide), y3, w_I, if_pos ⟨rfl, rfl⟩]
    exact z0
  · rw [y4, w_I, if_pos ⟨rfl, rfl⟩]
    exact z0
end FE
end
section
/-! ON: what an image is; the class reads it -/
def s_cb (B : Nat → Int) : Nat → Int
  | 0 => 233
  | i + 1 => (5 * s_cb B i + B i) % 251
theorem s_cb_b {B : Nat → Int} : ∀ i : Nat, 0 ≤ s_cb B i ∧ s_cb B i ≤ 250
  | 0 => ⟨by show (0 : Int) ≤ 233; decide, by show (233 : Int) ≤ 250; decide⟩
  | i + 1 => by
    show 0 ≤ (5 * s_cb B i + B i) % 251 ∧ (5 * s_cb B i + B i) % 251 ≤ 250
    omega
/-- how many cells there are below c -/
noncomputable def s_cp (G : aR) : Nat → Nat
  | 0 => 0
  | c + 1 => s_cp G c + s_if (s_in G (c : Int)) 1 0
theorem s_cp_y {G : aR} {c : Nat} (h : s_in G (c : Int)) : s_cp G (c + 1) = s_cp G c + 1 := by
  show s_cp G c + s_if (s_in G (c : Int)) 1 0 = _
  rw [s_if_y h]
theorem s_cp_n {G : aR} {c : Nat} (h : ¬ s_in G (c : Int)) : s_cp G (c + 1) = s_cp G c := by
  show s_cp G c + s_if (s_in G (c : Int)) 1 0 = _
  rw [s_if_n h]
  rfl
theorem s_cp_same {G : aR} {c : Nat} : ∀ d : Nat, (∀ j : Nat, c ≤ j → j < c + d → ¬ s_in G (j : Int)) → s_cp G (c + d) = s_cp G c
  | 0, _ => rfl
  | d + 1, h => by
    rw [show c + (d + 1) = (c + d) + 1 from rfl, s_cp_n (h (c + d) (by omega) (by omega)), s_cp_same d (fun j h1 h2 => h j h1 (by omega))]
/-- a cell of an image -/
def s_oc (G : aR) (B : Nat → Int) (p c : Nat) : Prop := (B (p + s_cp G c) ≤ 9 ∨ 254 ≤ B (p + s_cp G c)) ∧ ((c : Int) = G 0 2 → B (p + s_cp G c) = 255)
/-- where the class reads: all fits so far, or it doesn't -/
def cx_rd (n : Nat) (B : Nat → Int) (p : Nat) (S : dg_S) : Prop := (zI S 182 5).toInt = 1 ∧ (zI S 182 4).toInt = p ∧ p ≤ n ∧ (zI S 182 3).toInt = s_cb B p
def cx_bd (S : dg_S) : Prop := (zI S 182 5).toInt = 0
/-- reading goes on from S to S1 by q bytes, if V holds -/
def cx_go (n : Nat) (B : Nat → Int) (q : Nat) (V W : Nat → Prop) (S S1 : dg_S) : Prop := (∀ p, cx_rd n B p S → ((p + q ≤ n ∧ V p) ∧ cx_rd n B (p + q) S1 ∧ W p) ∨ (¬ (p + q ≤ n ∧ V p) ∧ cx_bd S1)) ∧ (cx_bd S → cx_bd S1)
def k_rd (S S1 : dg_S) : Prop := kp (fun a b => a = 182 ∧ (b = 3 ∨ b = 4 ∨ b = 5)) (fun _ => False) S S1
section FF
variable {o oX oM g n p q k i N : Nat} {G A A' : aR} {K : Nat → List Int} {B : Nat → Int} {S S0 S1 SX SM T : dg_S} {x x' r c v t m : Int} {a a1 a2 a3 a4 y : Int32}
theorem cx_tp.keep {LF : Nat → Nat → Prop} {LA : Nat → Prop} (h : cx_tp n B S) (t : kp LF LA S S1) (f : ¬ LF 1 1) (l : ¬ LA 2) : cx_tp n B S1 := ⟨by rw [t.I f]; exact h.1, h.2.1, fun i hi => by rw [(t.2 2 l).1]; exact h.2.2 i hi⟩
theorem cx_next (tp : cx_tp n B S) (ha : a1.toInt = m) : ∃ (S1 : dg_S) (y : Int32), F_i_next o S a1 = (S1, y) ∧ k_rd S S1 ∧ (∀ p, cx_rd n B p S → ((p < n ∧ B p ≤ m) ∧ cx_rd n B (p + 1) S1 ∧ y.toInt = B p) ∨ (¬ (p < n ∧ B p ≤ m) ∧ cx_bd S1)) ∧ (cx_bd S → cx_bd S1) := by
  have z0 : (0 : Int32).toInt = 0 := by decide +kernel
  have z1 : (1 : Int32).toInt = 1 := by decide +kernel
  have z5 : (5 : Int32).toInt = 5 := by decide +kernel
  have z251 : (251 : Int32).toInt = 251 := by decide +kernel
  obtain ⟨t1, t2, t3⟩ := tp
  obtain ⟨X0, x0⟩ : ∃ X, X = dg_uF S 182 5 (.int (0 : Int32)) := ⟨_, rfl⟩
  have kx0 : k_rd S X0 := by
    rw [x0]
    exact kp.uF kp.rf ⟨rfl, Or.inr (Or.inr rfl)⟩
  have bx0 : cx_bd X0 := by
    unfold cx_bd
    rw [x0, w_I, if_pos ⟨rfl, rfl⟩]
    exact z0
  by_cases q1 : zI S 1 1 ≤ zI S 182 4
  · have d1 := w_le.mp q1
    exact ⟨X0, 0, F_i_next_p0 rfl rfl q1 x0, kx0, fun p h => Or.inr ⟨fun z => by have := h.2.1; omega, bx0⟩, fun _ => bx0⟩
  have d1 : ¬ (zI S 1 1).toInt ≤ (zI S 182 4).toInt := fun z => q1 (w_le.mpr z)
  by_cases q2 : S.2.1 2 (zI S 182 4).toNatClampNeg ≤ a1
  rotate_left
  · refine ⟨X0, 0, F_i_next_p2 rfl rfl q1 rfl q2 x0, kx0, fun p h => Or.inr ⟨fun z => q2 (w_le.mpr ?_), bx0⟩, fun _ => bx0⟩
    have pn : (zI S 182 4).toNatClampNeg = p := by rw [dk_clN, h.2.1]; omega
    rw [pn, (t3 p z.1).1, ha]
    exact z.2
  have d2 := w_le.mp q2
  obtain ⟨w, hw⟩ : ∃ w : Int32, w = S.2.1 2 (zI S 182 4).toNatClampNeg := ⟨_, rfl⟩
  rw [← hw] at q2 d2
  obtain ⟨X1, x1⟩ : ∃ X, X = dg_uF S 182 4 (.int (zI S 182 4 + (1 : Int32))) := ⟨_, rfl⟩
  obtain ⟨u, hu⟩ : ∃ u : Int32, u = (5 : Int32) * zI X1 182 3 + w := ⟨_, rfl⟩
  obtain ⟨X2, x2⟩ : ∃ X, X = dg_uF X1 182 3 (.int (u - u / (251 : Int32) * (251 : Int32))) := ⟨_, rfl⟩
  have i5 : zI X2 182 5 = zI S 182 5 := by rw [x2, w_I0 (by decide), x1, w_I0 (by decide)]
  refine ⟨X2, w, F_i_next_p1 rfl rfl q1 hw q2 rfl x1 rfl rfl hu rfl x2, ?_, fun p h => Or.inl ?_, fun h => ?_⟩
  · rw [x2, x1]
    exact kp.uF (kp.uF kp.rf ⟨rfl, Or.inr (Or.inl rfl)⟩) ⟨rfl, Or.inl rfl⟩
  · obtain ⟨h1, h2, h3, h4⟩ := h
    have pl : p < n := by omega
    have pn : (zI S 182 4).toNatClampNeg = p := by rw [dk_clN, h2]; omega
    have wv : w.toInt = B p := by rw [hw, pn]; exact (t3 p pl).1
    have bb := (t3 p pl).2
    have cb := s_cb_b (B := B) p
    have i3 : (zI X1 182 3).toInt = s_cb B p := by rw [x1, w_I0 (by decide)]; exact h4
    have e5 : ((5 : Int32) * zI X1 182 3).toInt = 5 * s_cb B p := dk_mulT z5 i3 (by omega) (by omega)
    have eu : u.toInt = 5 * s_cb B p + B p := by rw [hu]; exact dk_addT e5 wv (by omega) (by omega)
    refine ⟨⟨pl, by omega⟩, ⟨by rw [i5]; exact h1, ?_, by omega, ?_⟩, wv⟩
    · rw [x2, w_I0 (by decide), x1, w_I, if_pos ⟨rfl, rfl⟩, dk_addT h2 z1 (by omega) (by omega)]
      omega
    · rw [x2, w_I, if_pos ⟨rfl, rfl⟩, dk_remL (by omega) z251 (by decide), eu]
      rfl
  · unfold cx_bd
    rw [i5]
    exact h
/-- one byte -/
theorem cx_next1 (tp : cx_tp n B S) (ha : a1.toInt = m) : ∃ (S1 : dg_S) (y : Int32), F_i_next o S a1 = (S1, y) ∧ k_rd S S1 ∧ cx_go n B 1 (fun p => B p ≤ m) (fun p => y.toInt = B p) S S1 := by
  obtain ⟨S1, y, e, k, h1, h2⟩ := cx_next (o := o) tp ha
  refine ⟨S1, y, e, k, fun p hp => ?_, h2⟩
  rcases h1 p hp with ⟨⟨w1, w2⟩, w3, w4⟩ | ⟨w1, w2⟩
  · exact Or.inl ⟨⟨by omega, w2⟩, w3, w4⟩
  · exact Or.inr ⟨fun z => w1 ⟨by omega, z.2⟩, w2⟩
/-- one reading behind another -/
theorem cx_go.tr {V W V2 W2 : Nat → Prop} {q2 : Nat} (h : cx_go n B q V W S S0) (h2 : cx_go n B q2 V2 W2 S0 S1) : cx_go n B (q + q2) (fun p => V p ∧ V2 (p + q)) (fun p => W p ∧ W2 (p + q)) S S1 := by
  refine ⟨fun p hp => ?_, fun b => h2.2 (h.2 b)⟩
  rcases h.1 p hp with ⟨⟨w1, w2⟩, w3, w4⟩ | ⟨w1, w2⟩
  · rcases h2.1 _ w3 with ⟨⟨u1, u2⟩, u3, u4⟩ | ⟨u1, u2⟩
    · exact Or.inl ⟨⟨by omega, w2, u2⟩, by rw [← Nat.add_assoc]; exact u3, w4, u4⟩
    · exact Or.inr ⟨fun z => u1 ⟨by omega, z.2.2⟩, u2⟩
  · exact Or.inr ⟨fun z => w1 ⟨by omega, z.2.1⟩, h2.2 w2⟩
/-- what else is written between -/
theorem cx_go.st {V W : Nat → Prop} (h : cx_go n B q V W S S0) (e3 : zI S1 182 3 = zI S0 182 3) (e4 : zI S1 182 4 = zI S0 182 4) (e5 : zI S1 182 5 = zI S0 182 5) : cx_go n B q V W S S1 := by
  refine ⟨fun p hp => ?_, fun b => ?_⟩
  · rcases h.1 p hp with ⟨w1, ⟨u1, u2, u3, u4⟩, w4⟩ | ⟨w1, w2⟩
    · exact Or.inl ⟨w1, ⟨by rw [e5]; exact u1, by rw [e4]; exact u2, u3, by rw [e3]; exact u4⟩, w4⟩
    · refine Or.inr ⟨w1, ?_⟩
      unfold cx_bd at w2 ⊢
      rw [e5]
      exact w2
  · have := h.2 b
    unfold cx_bd at this ⊢
    rw [e5]
    exact this
theorem cx_go.im {V W V2 W2 : Nat → Prop} (h : cx_go n B q V W S S1) (hV : ∀ p, V2 p ↔ V p) (hW : ∀ p, p + q ≤ n → V p → W p → W2 p) : cx_go n B q V2 W2 S S1 := by
  refine ⟨fun p hp => ?_, h.2⟩
  rcases h.1 p hp with ⟨⟨w1, w2⟩, w3, w4⟩ | ⟨w1, w2⟩
  · exact Or.inl ⟨⟨w1, (hV p).mpr w2⟩, w3, hW p w1 w2 w4⟩
  · exact Or.inr ⟨fun z => w1 ⟨z.1, (hV p).mp z.2⟩, w2⟩
def k_on (q : Nat) (S S1 : dg_S) : Prop := kp (fun a b => a = 182 ∧ (b = 3 ∨ b = 4 ∨ b = 5)) (fun a => a = q) S S1
/-- a row is read -/
theorem cx_takeAll {f9 : Int32 × dg_S → (Int32 × dg_S) ⊕ dg_S} {z : dg_S} {M : Nat} (f0 : ∀ (x : Int32) (T : dg_S), a2 ≤ x → f9 (x, T) = .inr T) (f1 : ∀ (x : Int32) (T : dg_S), ¬ a2 ≤ x → f9 (x, T) = .inl (x + 1, dg_uf (F_i_next o T a3).1 q (upd ((F_i_next o T a3).1.2.1 q) x.toNatClampNeg (F_i_next o T a3).2))) (hq : q ≠ 2) (tp : cx_tp n B S) (h2 : a2.toInt = N) (hN : N ≤ 100) (hM : N + 1 ≤ M) (h3 : a3.toInt = m) : ∃ S1, lp f9 z M ((0 : Int32), S) = S1 ∧ k_on q S S1 ∧ (∀ k, N ≤ k → S1.2.1 q k = S.2.1 q k) ∧ cx_go n B N (fun p => ∀ k, k < N → B (p + k) ≤ m) (fun p => ∀ k, k < N → (S1.2.1 q k).toInt = B (p + k)) S S1 := by
  have z0 : (0 : Int32).toInt = 0 := by decide +kernel
  refine lp_cnt (f := f9) (z := z) (W := N) (P := fun i T => k_on q S T ∧ (∀ k, i ≤ k → T.2.1 q k = S.2.1 q k) ∧ cx_go n B i (fun p => ∀ k, k < i → B (p + k) ≤ m) (fun p => ∀ k, k < i → (T.2.1 q k).toInt = B (p + k)) S T) (Q := fun R => ∃ S1, R = S1 ∧ k_on q S S1 ∧ (∀ k, N ≤ k → S1.2.1 q k = S.2.1 q k) ∧ cx_go n B N (fun p => ∀ k, k < N → B (p + k) ≤ m) (fun p => ∀ k, k < N → (S1.2.1 q k).toInt = B (p + k)) S S1) (by omega) (fun i iI T hi hiI hP => ?_) (fun iI T hiI hP => ⟨_, f0 iI T (w_le.mpr (by omega)), T, rfl, hP⟩) M 0 0 S (by omega) (by omega) z0 ⟨kp.rf, fun _ _ => rfl, fun p hp => Or.inl ⟨⟨hp.2.2.1, fun k hk => absurd hk (Nat.not_lt_zero k)⟩, hp, fun k hk => absurd hk (Nat.not_lt_zero k)⟩, id⟩
  obtain ⟨t1, t2, t3⟩ := hP
  have iN : iI.toNatClampNeg = i := by rw [dk_clN]; omega
  obtain ⟨T1, y, e1, k1, g1⟩ := cx_next1 (o := o) (tp.keep t1 (by omega) (by omega)) h3
  obtain ⟨T2, e2⟩ : ∃ X, X = dg_uf T1 q (upd (T1.2.1 q) i y) := ⟨_, rfl⟩
  have ef : f9 (iI, T) = .inl (iI + 1, T2) := by
    rw [f1 iI T (fun z => by have := w_le.mp z; omega), e1, iN, e2]
  have r1 : T1.2.1 q = T.2.1 q := (k1.2 q id).1
  have row : ∀ k, T2.2.1 q k = if k = i then y else T.2.1 q k := fun k => by
    rw [e2, w_f, if_pos rfl, w_u, r1]
  refine ⟨T2, ef, ?_, fun k hk => ?_, ?_⟩
  · rw [e2]
    exact kp.uf (t1.tr (k1.w (fun a b z => z) (fun a z => z.elim))) rfl
  · rw [row, if_neg (by omega)]
    exact t2 k (by omega)
  · have gg := (t3.tr g1).st (S1 := T2) (by rw [e2]; rfl) (by rw [e2]; rfl) (by rw [e2]; rfl)
    refine gg.im (fun p => ⟨fun w => ⟨fun k hk => w k (by omega), w i (by omega)⟩, fun w k hk => ?_⟩) (fun p _ _ w k hk => ?_)
    · by_cases e : k = i
      · rw [e]
        exact w.2
      · exact w.1 k (by omega)
    · rw [row]
      by_cases e : k = i
      · rw [if_pos e, e]
        exact w.2
      · rw [if_neg e]
        exact w.1 k (by omega)
/-- the plan is read -/
theorem cx_takePlan (hg : cx_g G K S g) (hG : s_gx G) (tp : cx_tp n B S) : ∃ S1, F_i_takePlan o S g 10 = S1 ∧ kp (fun a b => a = 182 ∧ (b = 3 ∨ b = 4 ∨ b = 5)) (fun a => a = 13 ∨ a = 14) S S1 ∧ cx_go n B (3 * (G 0 6).toNat) (fun p => ∀ k : Nat, (k : Int) < G 0 6 → B (p + 3 * k) < G 0 5 ∧ B (p + 3 * k + 1) < G 0 0 ∧ B (p + 3 * k + 2) < G 0 1) (fun p => ∀ k : Nat, (k : Int) < G 0 6 → (S1.2.1 13 k).toInt = B (p + 3 * k) ∧ (S1.2.1 14 k).toInt = 8 * B (p + 3 * k + 2) + B (p + 3 * k + 1) + 8) S S1 := by
  have z0 : (0 : Int32).toInt = 0 := by decide +kernel
  have z1 : (1 : Int32).toInt = 1 := by decide +kernel
  have sep := rX_sep hg.1.1
  have h5 := hG.2.2.2.1
  have h6 := hG.1.2.2
  have hgb := hG.1.1
  obtain ⟨P, hP6⟩ : ∃ P : Nat, (P : Int) = G 0 6 := ⟨(G 0 6).toNat, by omega⟩
  have f0 : (zI S g 0).toInt = G 0 0 := hg.2.1.1
  have f1 : (zI S g 1).toInt = G 0 1 := hg.2.1.2.1
  have f6 : (zI S g 6).toInt = G 0 5 := hg.2.1.2.2.2.2.1
  have f8 : (zI S g 8).toInt = G 0 6 := hg.1.2.2.1
  have e5 : (zI S g 6 - (1 : Int32)).toInt = G 0 5 - 1 := dk_subT f6 z1 (by omega) (by omega)
  have e0 : (zI S g 0 - (1 : Int32)).toInt = G 0 0 - 1 := dk_subT f0 z1 (by omega) (by omega)
  have e1 : (zI S g 1 - (1 : Int32)).toInt = G 0 1 - 1 := dk_subT f1 z1 (by omega) (by omega)
  rw [F_i_takePlan_p3 rfl rfl, show (G 0 6).toNat = P by omega, ← hP6]
  refine lp_cnt (f := F_i_takePlan_B1 S g o 10 (zI S g 0) (zI S g 1)) (z := S) (W := P) (P := fun i T => kp (fun a b => a = 182 ∧ (b = 3 ∨ b = 4 ∨ b = 5)) (fun a => a = 13 ∨ a = 14) S T ∧ cx_go n B (3 * i) (fun p => ∀ k : Nat, (k : Int) < i → B (p + 3 * k) < G 0 5 ∧ B (p + 3 * k + 1) < G 0 0 ∧ B (p + 3 * k + 2) < G 0 1) (fun p => ∀ k : Nat, (k : Int) < i → (T.2.1 13 k).toInt = B (p + 3 * k) ∧ (T.2.1 14 k).toInt = 8 * B (p + 3 * k + 2) + B (p + 3 * k + 1) + 8) S T) (Q := fun R => ∃ S1, R = S1 ∧ kp (fun a b => a = 182 ∧ (b = 3 ∨ b = 4 ∨ b = 5)) (fun a => a = 13 ∨ a = 14) S S1 ∧ cx_go n B (3 * P) (fun p => ∀ k : Nat, (k : Int) < P → B (p + 3 * k) < G 0 5 ∧ B (p + 3 * k + 1) < G 0 0 ∧ B (p + 3 * k + 2) < G 0 1) (fun p => ∀ k : Nat, (k : Int) < P → (S1.2.1 13 k).toInt = B (p + 3 * k) ∧ (S1.2.1 14 k).toInt = 8 * B (p + 3 * k + 2) + B (p + 3 * k + 1) + 8) S S1) (by omega) (fun i iI T hi hiI hP => ?_) (fun iI T hiI hP => ⟨_, F_i_takePlan_p0 rfl (w_le.mpr (by rw [f8]; omega)), T, rfl, hP⟩) ((17 - ((0 : Int32)).toInt).toNat + 1) 0 0 S (by rw [z0]; omega) (by omega) z0 ⟨kp.rf, fun p hp => Or.inl ⟨⟨hp.2.2.1, fun k hk => absurd hk (by omega)⟩, hp, fun k hk => absurd hk (by omega)⟩, id⟩
  obtain ⟨t1, t2⟩ := hP
  have iN : iI.toNatClampNeg = i := by rw [dk_clN]; omega
  obtain ⟨T1, y1, x1, k1, g1⟩ := cx_next1 (o := o) (tp.keep t1 (by omega) (by omega)) e5
  obtain ⟨T2, x2⟩ : ∃ X, X = dg_uf T1 (10 + 3) (upd (T1.2.1 (10 + 3)) iI.toNatClampNeg y1) := ⟨_, rfl⟩
  have s2 : kp (fun a b => a = 182 ∧ (b = 3 ∨ b = 4 ∨ b = 5)) (fun a => a = 13 ∨ a = 14) S T2 := by
    rw [x2]
    exact kp.uf (t1.tr (k1.w (fun a b z => z) (fun a z => z.elim))) (Or.inl rfl)
  obtain ⟨T3, y3, x3, k3, g3⟩ := cx_next1 (o := o) (tp.keep s2 (by omega) (by omega)) e0
  have s3 := s2.tr (k3.w (LA' := fun a => a = 13 ∨ a = 14) (fun a b z => z) (fun a z => z.elim))
  obtain ⟨T4, y4, x4, k4, g4⟩ := cx_next1 (o := o) (tp.keep s3 (by omega) (by omega)) e1
  have s4 := s3.tr (k4.w (LA' := fun a => a = 13 ∨ a = 14) (fun a b z => z) (fun a z => z.elim))
  obtain ⟨T5, x5⟩ : ∃ X, X = dg_uf T4 (10 + 4) (upd (T4.2.1 (10 + 4)) iI.toNatClampNeg (F_g_placeOf o T4 g y3 y4)) := ⟨_, rfl⟩
  have hg4 : cx_g G K T4 g := hg.keep (fun j h1 h2 => (s4.2 j (by omega)).1) (fun b => s4.I (by omega))
  refine ⟨T5, (F_i_takePlan_p2 rfl (fun z => by have := w_le.mp z; rw [f8] at this; omega) rfl rfl (show T1 = _ by rw [x1]) (show y1 = _ by rw [x1]) x2 rfl (show T3 = _ by rw [x3]) (show y3 = _ by rw [x3]) rfl (show T4 = _ by rw [x4]) (show y4 = _ by rw [x4])).trans (F_i_takePlan_p1 rfl x5 rfl), ?_, ?_⟩
  · rw [x5]
    exact kp.uf s4 (Or.inr rfl)
  · have w13 : ∀ k, T5.2.1 13 k = if k = i then y1 else T.2.1 13 k := fun k => by
      rw [x5, w_f, if_neg (show ¬ (13 : Nat) = 10 + 4 by decide), (k4.2 13 id).1, (k3.2 13 id).1, x2, w_f, if_pos rfl, w_u, iN, (k1.2 (10 + 3) id).1]
    have w14 : ∀ k, T5.2.1 14 k = if k = i then F_g_placeOf o T4 g y3 y4 else T.2.1 14 k := fun k => by
      rw [x5, w_f, if_pos rfl, w_u, iN, (k4.2 (10 + 4) id).1, (k3.2 (10 + 4) id).1, x2, w_f, if_neg (show ¬ (10 + 4 : Nat) = 10 + 3 by decide), (k1.2 (10 + 4) id).1]
    have ga := (t2.tr g1).st (S1 := T2) (by rw [x2]; rfl) (by rw [x2]; rfl) (by rw [x2]; rfl)
    have gb := ((ga.tr g3).tr g4).st (S1 := T5) (by rw [x5]; rfl) (by rw [x5]; rfl) (by rw [x5]; rfl)
    rw [show 3 * (i + 1) = 3 * i + 1 + 1 + 1 by omega]
    refine gb.im (fun p => ⟨fun w => ⟨⟨⟨fun k hk => w k (by omega), ?_⟩, ?_⟩, ?_⟩, fun w k hk => ?_⟩) (fun p hn wv w k hk => ?_)
    · have := (w i (by omega)).1
      show B (p + 3 * i) ≤ G 0 5 - 1
      omega
    · have := (w i (by omega)).2.1
      show B (p + (3 * i + 1)) ≤ G 0 0 - 1
      rw [show p + (3 * i + 1) = p + 3 * i + 1 by omega]
      omega
    · have := (w i (by omega)).2.2
      show B (p + (3 * i + 1 + 1)) ≤ G 0 1 - 1
      rw [show p + (3 * i + 1 + 1) = p + 3 * i + 2 by omega]
      omega
    · obtain ⟨⟨⟨u1, u2⟩, u3⟩, u4⟩ := w
      have u2 : B (p + 3 * i) ≤ G 0 5 - 1 := u2
      have u3 : B (p + (3 * i + 1)) ≤ G 0 0 - 1 := u3
      have u4 : B (p + (3 * i + 1 + 1)) ≤ G 0 1 - 1 := u4
      rw [show p + (3 * i + 1) = p + 3 * i + 1 by omega] at u3
      rw [show p + (3 * i + 1 + 1) = p + 3 * i + 2 by omega] at u4
      by_cases e : k = i
      · rw [e]
        exact ⟨by omega, by omega, by omega⟩
      · exact u1 k (by omega)
    · obtain ⟨⟨⟨u1, u2⟩, u3⟩, u4⟩ := w
      have u2 : y1.toInt = B (p + 3 * i) := u2
      have u3 : y3.toInt = B (p + (3 * i + 1)) := u3
      have u4 : y4.toInt = B (p + (3 * i + 1 + 1)) := u4
      obtain ⟨⟨⟨v1, v2⟩, v3⟩, v4⟩ := wv
      have v3 : B (p + (3 * i + 1)) ≤ G 0 0 - 1 := v3
      have v4 : B (p + (3 * i + 1 + 1)) ≤ G 0 1 - 1 := v4
      rw [show p + (3 * i + 1) = p + 3 * i + 1 by omega] at u3 v3
      rw [show p + (3 * i + 1 + 1) = p + 3 * i + 2 by omega] at u4 v4
      rw [w13, w14]
      by_cases e : k = i
      · rw [if_pos e, if_pos e, e]
        refine ⟨u2, ?_⟩
        have b3 := (tp.2.2 (p + 3 * i + 1) (by omega)).2
        have b4 := (tp.2.2 (p + 3 * i + 2) (by omega)).2
        rcases cx_place (o := o) (a1 := y3) (a2 := y4) hg4 hgb with ⟨p1, p2, p3, p4⟩ | ⟨p1, p2⟩
        · rw [p3, u3, u4]
        · exact absurd ⟨⟨by omega, by omega⟩, by omega, by omega⟩ p1
      · rw [if_neg e, if_neg e]
        exact u1 k (by omega)
end FF
end
section
/-! ON: the class reads an image's cells -/
section FG
variable {o oX oM g n p q k i N : Nat} {G A A' : aR} {K : Nat → List Int} {B : Nat → Int} {S S0 S1 SX SM T T1 : dg_S} {x x' r c v t m : Int} {a a1 a2 a3 a4 y : Int32}
/-- what fits of a byte y for cell c -/
def s_ob9 (G : aR) (c : Int) (b : Int) : Prop := (b ≤ 9 ∨ 254 ≤ b) ∧ (c = G 0 2 → b = 255)
/-- one cell -/
theorem cx_cell1 {pI : Int32} (e1 : F_i_next o T 255 = (T1, y)) (hend : ¬ F_g_endOfPlaces o T g ≤ pI) (h100 : ¬ T.2.1 (10 + 1) pI.toNatClampNeg = (100 : Int32)) (hp : pI.toInt = c + 8) (hsh : (zI S g 2).toInt = G 0 2 + 8) : ∃ w : Int32, F_i_takeCells_B1 o g 10 S (pI, T) = .inl (pI + 1, dg_uf (dg_uF T1 182 5 (.int w)) (10 + 1) (upd (T1.2.1 (10 + 1)) pI.toNatClampNeg y)) ∧ (w.toInt = 1 ∧ (zI T1 182 5).toInt ≠ 0 ∧ s_ob9 G c y.toInt ∨ w.toInt = 0 ∧ ¬ ((zI T1 182 5).toInt ≠ 0 ∧ s_ob9 G c y.toInt)) := by
  have z0 : (0 : Int32).toInt = 0 := by decide +kernel
  have z1 : (1 : Int32).toInt = 1 := by decide +kernel
  have z9 : (9 : Int32).toInt = 9 := by decide +kernel
  have z254 : (254 : Int32).toInt = 254 := by decide +kernel
  have z255 : (255 : Int32).toInt = 255 := by decide +kernel
  have a1 : T1 = (F_i_next o T 255).1 := by rw [e1]
  have a2 : y = (F_i_next o T 255).2 := by rw [e1]
  by_cases q : pI = zI S g 2
  · have d := w_eq.mp q
    rw [hp, hsh] at d
    by_cases f : zI T1 182 5 = (0 : Int32)
    · exact ⟨0, (F_i_takeCells_p12 rfl hend rfl h100 a1 a2 rfl q rfl f).trans (F_i_takeCells_p11.trans ((F_i_takeCells_p10 rfl).trans ((F_i_takeCells_p2 rfl).trans (F_i_takeCells_p1 rfl)))), Or.inr ⟨z0, fun z => z.1 (dk_eqc z0 f)⟩⟩
    · have f' := dk_neqc z0 f
      by_cases u : y = (255 : Int32)
      · have u' := dk_eqc z255 u
        exact ⟨1, (F_i_takeCells_p14 rfl hend rfl h100 a1 a2 rfl q rfl f u).trans ((F_i_takeCells_p10 rfl).trans ((F_i_takeCells_p2 rfl).trans (F_i_takeCells_p1 rfl))), Or.inl ⟨z1, f', ⟨by omega, fun _ => u'⟩⟩⟩
      · have u' := dk_neqc z255 u
        exact ⟨0, (F_i_takeCells_p13 rfl hend rfl h100 a1 a2 rfl q rfl f u).trans (F_i_takeCells_p11.trans ((F_i_takeCells_p10 rfl).trans ((F_i_takeCells_p2 rfl).trans (F_i_takeCells_p1 rfl)))), Or.inr ⟨z0, fun z => u' (z.2.2 (by omega))⟩⟩
  · have d : ¬ c = G 0 2 := fun z => q (Int32.toInt_inj.mp (by rw [hp, hsh, z]))
    by_cases f : zI T1 182 5 = (0 : Int32)
    · exact ⟨0, (F_i_takeCells_p5 rfl hend rfl h100 a1 a2 rfl q rfl f).trans (F_i_takeCells_p4.trans ((F_i_takeCells_p3 rfl).trans ((F_i_takeCells_p2 rfl).trans (F_i_takeCells_p1 rfl)))), Or.inr ⟨z0, fun z => z.1 (dk_eqc z0 f)⟩⟩
    · have f' := dk_neqc z0 f
      by_cases u : y ≤ (9 : Int32)
      · have u' := dk_lec z9 u
        exact ⟨1, (F_i_takeCells_p7 rfl hend rfl h100 a1 a2 rfl q rfl f u).trans (F_i_takeCells_p6.trans ((F_i_takeCells_p3 rfl).trans ((F_i_takeCells_p2 rfl).trans (F_i_takeCells_p1 rfl)))), Or.inl ⟨z1, f', ⟨Or.inl u', fun z => absurd z d⟩⟩⟩
      · have u' := dk_nlec z9 u
        by_cases w : y < (254 : Int32)
        · have w' := dk_ltc z254 w
          exact ⟨0, (F_i_takeCells_p8 rfl hend rfl h100 a1 a2 rfl q rfl f u w).trans (F_i_takeCells_p4.trans ((F_i_takeCells_p3 rfl).trans ((F_i_takeCells_p2 rfl).trans (F_i_takeCells_p1 rfl)))), Or.inr ⟨z0, fun z => by have := z.2.1; omega⟩⟩
        · have w' := dk_nltc z254 w
          exact ⟨1, (F_i_takeCells_p9 rfl hend rfl h100 a1 a2 rfl q rfl f u w).trans (F_i_takeCells_p6.trans ((F_i_takeCells_p3 rfl).trans ((F_i_takeCells_p2 rfl).trans (F_i_takeCells_p1 rfl)))), Or.inl ⟨z1, f', ⟨Or.inr (by omega), fun z => absurd z d⟩⟩⟩
/-- all cells -/
theorem cx_takeCells (hg : cx_g G K S g) (hG : s_gx G) (tp : cx_tp n B S) (hc : ∀ j : Nat, j < 72 → ((S.2.1 11 j).toInt = 100 ↔ ¬ s_in G ((j : Int) - 8))) : ∃ S1, F_i_takeCells o S g 10 = S1 ∧ kp (fun a b => a = 182 ∧ (b = 3 ∨ b = 4 ∨ b = 5)) (fun a => a = 11) S S1 ∧ (∀ j : Nat, j < 72 → ¬ s_in G ((j : Int) - 8) → S1.2.1 11 j = S.2.1 11 j) ∧ cx_go n B (s_cp G 64) (fun p => ∀ d : Nat, d < 64 → s_in G (d : Int) → s_oc G B p d) (fun p => ∀ d : Nat, d < 64 → s_in G (d : Int) → (S1.2.1 11 (d + 8)).toInt = B (p + s_cp G d)) S S1 := by
  have z8 : (8 : Int32).toInt = 8 := by decide +kernel
  have z100 : (100 : Int32).toInt = 100 := by decide +kernel
  have z255 : (255 : Int32).toInt = 255 := by decide +kernel
  have sep := rX_sep hg.1.1
  have hgb := hG.1.1
  have f1 : (zI S g 1).toInt = G 0 1 := hg.2.1.2.1
  have f2 : (zI S g 2).toInt = G 0 2 + 8 := hg.1.2.1
  obtain ⟨R, hR⟩ : ∃ R : Nat, (R : Int) = G 0 1 := ⟨(G 0 1).toNat, by omega⟩
  have eend : ∀ T, kp (fun a b => a = 182 ∧ (b = 3 ∨ b = 4 ∨ b = 5)) (fun a => a = 11) S T → (F_g_endOfPlaces o T g).toInt = 8 * (R : Int) + 8 := fun T t => by
    have e1 : (zI T g 1).toInt = R := by rw [t.I (fun z => by omega), f1, hR]
    exact dk_addT (dk_mulT z8 e1 (by omega) (by omega)) z8 (by omega) (by omega)
  have e64 := s_cp_same (G := G) (c := 8 * R) (64 - 8 * R) (fun j j1 j2 z => by have := z.2.2; omega)
  rw [show 8 * R + (64 - 8 * R) = 64 by omega] at e64
  have V64 : ∀ d : Nat, s_in G (d : Int) → d < 64 → d < 8 * R := fun d h1 h2 => by have := h1.2.2; omega
  rw [F_i_takeCells_p16]
  refine lp_cnt (f := F_i_takeCells_B1 o g 10 S) (z := S) (W := 8 * R + 8) (P := fun pl T => 8 ≤ pl ∧ kp (fun a b => a = 182 ∧ (b = 3 ∨ b = 4 ∨ b = 5)) (fun a => a = 11) S T ∧ (∀ j, pl ≤ j → T.2.1 11 j = S.2.1 11 j) ∧ (∀ j : Nat, j < 72 → ¬ s_in G ((j : Int) - 8) → T.2.1 11 j = S.2.1 11 j) ∧ cx_go n B (s_cp G (pl - 8)) (fun p => ∀ d : Nat, d < pl - 8 → s_in G (d : Int) → s_oc G B p d) (fun p => ∀ d : Nat, d < pl - 8 → s_in G (d : Int) → (T.2.1 11 (d + 8)).toInt = B (p + s_cp G d)) S T) (Q := fun R' => ∃ S1, R' = S1 ∧ kp (fun a b => a = 182 ∧ (b = 3 ∨ b = 4 ∨ b = 5)) (fun a => a = 11) S S1 ∧ (∀ j : Nat, j < 72 → ¬ s_in G ((j : Int) - 8) → S1.2.1 11 j = S.2.1 11 j) ∧ cx_go n B (s_cp G 64) (fun p => ∀ d : Nat, d < 64 → s_in G (d : Int) → s_oc G B p d) (fun p => ∀ d : Nat, d < 64 → s_in G (d : Int) → (S1.2.1 11 (d + 8)).toInt = B (p + s_cp G d)) S S1) (by omega) (fun pl pI T hp hpI hP => ?_) (fun pI T hpI hP => ?_) ((65 - ((8 : Int32)).toInt).toNat + 1) 8 8 S (by rw [z8]; omega) (by omega) z8 ⟨Nat.le_refl 8, kp.rf, fun _ _ => rfl, fun _ _ _ => rfl, fun p hp => Or.inl ⟨⟨hp.2.2.1, fun d hd => absurd hd (Nat.not_lt_zero d)⟩, hp, fun d hd => absurd hd (Nat.not_lt_zero d)⟩, id⟩
  rotate_left
  · obtain ⟨t0, t1, t2, t3, t4⟩ := hP
    rw [show 8 * R + 8 - 8 = 8 * R by omega, ← e64] at t4
    exact ⟨T, F_i_takeCells_p0 rfl (w_le.mpr (by rw [eend T t1]; omega)), T, rfl, t1, t3, t4.im (fun p => ⟨fun w d h1 h2 => w d (by omega) h2, fun w d h1 h2 => w d (V64 d h2 h1) h2⟩) (fun p _ _ w d h1 h2 => w d (V64 d h2 h1) h2)⟩
  obtain ⟨t0, t1, t2, t3, t4⟩ := hP
  have hend : ¬ F_g_endOfPlaces o T g ≤ pI := fun z => by have := w_le.mp z; rw [eend T t1] at this; omega
  have pn : pI.toNatClampNeg = pl := by rw [dk_clN]; omega
  have rv : T.2.1 11 pl = S.2.1 11 pl := t2 pl (Nat.le_refl pl)
  obtain ⟨c, hcc⟩ : ∃ c, c = pl - 8 := ⟨_, rfl⟩
  rw [← hcc] at t4
  rw [show pl + 1 - 8 = c + 1 by omega]
  have hcj := hc pl (by omega)
  rw [show (pl : Int) - 8 = (c : Int) by omega] at hcj
  by_cases q : T.2.1 (10 + 1) pI.toNatClampNeg = (100 : Int32)
  · have d := dk_eqc z100 q
    have d : (T.2.1 11 pI.toNatClampNeg).toInt = 100 := d
    rw [pn, rv] at d
    have nin := hcj.mp d
    refine ⟨T, (F_i_takeCells_p15 rfl hend rfl q).trans (F_i_takeCells_p1 rfl), by omega, t1, fun j hj => t2 j (by omega), t3, ?_⟩
    rw [s_cp_n nin]
    refine t4.im (fun p => ⟨fun w d h1 h2 => w d (by omega) h2, fun w d h1 h2 => ?_⟩) (fun p _ _ w d h1 h2 => ?_)
    · by_cases e : d = c
      · rw [e] at h2
        exact absurd h2 nin
      · exact w d (by omega) h2
    · by_cases e : d = c
      · rw [e] at h2
        exact absurd h2 nin
      · exact w d (by omega) h2
  have hin : s_in G (c : Int) := by
    apply Classical.byContradiction
    intro z
    have := hcj.mpr z
    rw [← rv, ← pn] at this
    exact q (Int32.toInt_inj.mp (this.trans z100.symm))
  obtain ⟨T1, y, e1, k1, g1⟩ := cx_next1 (o := o) (m := 255) (tp.keep t1 (by omega) (by omega)) z255
  obtain ⟨w, ew, hw⟩ := cx_cell1 (o := o) (g := g) (G := G) (S := S) (T := T) (T1 := T1) (y := y) (c := (c : Int)) e1 hend q (by omega) f2
  obtain ⟨T2, e2⟩ : ∃ X, X = dg_uF T1 182 5 (.int w) := ⟨_, rfl⟩
  obtain ⟨T3, e3⟩ : ∃ X, X = dg_uf T2 (10 + 1) (upd (T1.2.1 (10 + 1)) pI.toNatClampNeg y) := ⟨_, rfl⟩
  rw [← e2, ← e3] at ew
  have r1 : T1.2.1 11 = T.2.1 11 := (k1.2 11 id).1
  have row : ∀ j, T3.2.1 11 j = if j = pl then y else T.2.1 11 j := fun j => by
    rw [e3, w_f, if_pos rfl, w_u, pn, show (10 + 1 : Nat) = 11 from rfl, r1]
  have i5 : (zI T3 182 5).toInt = w.toInt := by
    rw [e3]
    show (zI T2 182 5).toInt = w.toInt
    rw [e2, w_I, if_pos ⟨rfl, rfl⟩]
  have i4 : zI T3 182 4 = zI T1 182 4 := by
    rw [e3]
    show zI T2 182 4 = _
    rw [e2, w_I0 (by decide)]
  have i3 : zI T3 182 3 = zI T1 182 3 := by
    rw [e3]
    show zI T2 182 3 = _
    rw [e2, w_I0 (by decide)]
  have t13 : kp (fun a b => a = 182 ∧ (b = 3 ∨ b = 4 ∨ b = 5)) (fun a => a = 11) S T3 := by
    rw [e3, e2]
    exact kp.uf (kp.uF (t1.tr (k1.w (fun a b z => z) (fun a z => z.elim))) ⟨rfl, Or.inr (Or.inr rfl)⟩) rfl
  refine ⟨T3, ew, by omega, t13, fun j hj => ?_, fun j hj hn => ?_, ?_⟩
  · rw [row, if_neg (by omega)]
    exact t2 j (by omega)
  · by_cases e : j = pl
    · rw [e, show (pl : Int) - 8 = (c : Int) by omega] at hn
      exact absurd hin hn
    · rw [row, if_neg e]
      exact t3 j hj hn
  · have gg := t4.tr g1
    rw [s_cp_y hin]
    have bad : cx_bd T1 → cx_bd T3 := fun b => by
      unfold cx_bd at b ⊢
      rw [i5]
      rcases hw with ⟨-, w2, -⟩ | ⟨w1, -⟩
      · exact absurd b w2
      · exact w1
    refine ⟨fun p hp => ?_, fun b => bad (gg.2 b)⟩
    rcases gg.1 p hp with ⟨⟨u1, u2, u3⟩, ⟨v1, v2, v3, v4⟩, ⟨s1, s2⟩⟩ | ⟨u1, u2⟩
    · have s2 : y.toInt = B (p + s_cp G c) := s2
      rcases hw with ⟨w1, -, w3⟩ | ⟨w1, w2⟩
      · rw [s2] at w3
        refine Or.inl ⟨⟨u1, fun d h1 h2 => ?_⟩, ⟨by rw [i5]; exact w1, by rw [i4]; exact v2, v3, by rw [i3]; exact v4⟩, fun d h1 h2 => ?_⟩
        · by_cases e : d = c
          · rw [e]
            exact w3
          · exact u2 d (by omega) h2
        · rw [row]
          by_cases e : d = c
          · rw [if_pos (by omega), e]
            exact s2
          · rw [if_neg (by omega)]
            exact s1 d (by omega) h2
      · refine Or.inr ⟨fun z => w2 ⟨by omega, ?_⟩, ?_⟩
        · rw [s2]
          exact z.2 c (by omega) hin
        · unfold cx_bd
          rw [i5]
          exact w1
    · refine Or.inr ⟨fun z => u1 ⟨z.1, fun d h1 h2 => z.2 d (by omega) h2, ?_⟩, bad u2⟩
      have := (tp.2.2 (p + s_cp G c) (by have := z.1; omega)).2
      exact this.2
end FG
end
