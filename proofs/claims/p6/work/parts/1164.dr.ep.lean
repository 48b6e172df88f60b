/-! IMAGE: what it is; the class -/
theorem w_shk {a s : Int32} {v k : Nat} (ha : a.toInt = v) (hv : v < 2 ^ 31) (hs : (s.toBitVec.smod 32).toNat = k) : (a >>> s).toInt = ((v / 2 ^ k : Nat) : Int) := by
  have e : a = nI v := Int32.toInt_inj.mp (by rw [ha, nI_toInt hv])
  have h2 : v / 2 ^ k ≤ v := Nat.div_le_self _ _
  rw [e, pk_shrN hv s k hs, nI_toInt (Nat.lt_of_le_of_lt h2 hv)]
theorem w_255 {a : Int32} (h : 0 ≤ a.toInt) : (a &&& 255).toInt = a.toInt % 256 := by
  have hl := Int32.toInt_lt a
  obtain ⟨v, hv⟩ : ∃ v : Nat, a.toInt = v := ⟨a.toInt.toNat, by omega⟩
  have v31 : v < 2 ^ 31 := by
    have : v < 2147483648 := by omega
    exact this
  have e : a = nI v := Int32.toInt_inj.mp (by rw [hv, nI_toInt v31])
  have b : v % 2 ^ 8 < 256 := Nat.mod_lt _ (by decide)
  have e8 : (2 : Nat) ^ 8 = 256 := by decide
  rw [hv, e, pk_andN (n := v) (m := 255) (Nat.lt_trans v31 (by decide)) 8 (by decide), nI_toInt (Nat.lt_trans b (by decide)), e8]
  omega
theorem getD_ap {l : List Int} {b : Int} {i : Nat} (h : i ≤ l.length) : (l ++ [b]).getD i 0 = if i = l.length then b else l.getD i 0 := by
  by_cases q : i = l.length
  · rw [if_pos q, q, List.getD_eq_getElem?_getD, List.getElem?_concat_length]
    rfl
  · rw [if_neg q, List.getD_eq_getElem?_getD, List.getElem?_append_left (by omega), ← List.getD_eq_getElem?_getD]
/-- the check of the first i bytes -/
def s_cn (l : List Int) : Nat → Int
  | 0 => 233
  | i + 1 => (5 * s_cn l i + l.getD i 0) % 251
theorem s_cn_b {l : List Int} : ∀ i : Nat, 0 ≤ s_cn l i ∧ s_cn l i ≤ 250
  | 0 => ⟨by show (0 : Int) ≤ 233; decide, by show (233 : Int) ≤ 250; decide⟩
  | i + 1 => by
    show 0 ≤ (5 * s_cn l i + l.getD i 0) % 251 ∧ (5 * s_cn l i + l.getD i 0) % 251 ≤ 250
    omega
theorem s_cn_ap {l : List Int} {b : Int} : ∀ i : Nat, i ≤ l.length → s_cn (l ++ [b]) i = s_cn l i
  | 0, _ => rfl
  | i + 1, h => by
    show (5 * s_cn (l ++ [b]) i + (l ++ [b]).getD i 0) % 251 = (5 * s_cn l i + l.getD i 0) % 251
    rw [s_cn_ap i (by omega), getD_ap (by omega), if_neg (by omega)]
def s_sg (f : Nat → Int) (l : List Int) : Nat → List Int
  | 0 => l
  | n + 1 => s_sg f l n ++ [f n]
theorem s_sg_l {f : Nat → Int} {l : List Int} : ∀ n : Nat, (s_sg f l n).length = l.length + n
  | 0 => rfl
  | n + 1 => by
    show (s_sg f l n ++ [f n]).length = l.length + (n + 1)
    rw [List.length_append, s_sg_l n]
    rfl
noncomputable def s_iz (G A : aR) (l : List Int) : Nat → List Int
  | 0 => l
  | c + 1 => s_if (s_in G (c : Int)) (s_iz G A l c ++ [cx_en (s_c A (c : Int))]) (s_iz G A l c)
theorem s_iz_y {G A : aR} {l : List Int} {c : Nat} (h : s_in G (c : Int)) : s_iz G A l (c + 1) = s_iz G A l c ++ [cx_en (s_c A (c : Int))] := s_if_y h
theorem s_iz_n {G A : aR} {l : List Int} {c : Nat} (h : ¬ s_in G (c : Int)) : s_iz G A l (c + 1) = s_iz G A l c := s_if_n h
theorem s_iz_same {G A : aR} {l : List Int} {c : Nat} : ∀ d : Nat, (∀ j : Nat, c ≤ j → j < c + d → ¬ s_in G (j : Int)) → s_iz G A l (c + d) = s_iz G A l c
  | 0, _ => rfl
  | d + 1, h => by
    rw [show c + (d + 1) = (c + d) + 1 from rfl, s_iz_n (h (c + d) (by omega) (by omega)), s_iz_same d (fun j h1 h2 => h j h1 (by omega))]
theorem s_iz_l {G A : aR} {l : List Int} (hb : s_gb G) : ∀ c : Nat, c ≤ 64 → (s_iz G A l c).length ≤ l.length + min (7 * (c / 8) + min (c % 8) 7) 49
  | 0, _ => by
    show l.length ≤ _
    omega
  | c + 1, hc => by
    have ih := s_iz_l (A := A) (l := l) hb c (by omega)
    obtain ⟨⟨g1, g2⟩, g3, g4⟩ := hb
    by_cases q : s_in G (c : Int)
    · rw [s_iz_y q, List.length_append]
      show (s_iz G A l c).length + 1 ≤ _
      obtain ⟨q1, q2, q3⟩ := q
      omega
    · rw [s_iz_n q]
      omega
def s_pl (A : aR) (l : List Int) : Nat → List Int
  | 0 => l
  | k + 1 => ((s_pl A l k ++ [A 3 k]) ++ [A 4 k % 8]) ++ [A 4 k / 8]
theorem s_pl_l {A : aR} {l : List Int} : ∀ k : Nat, (s_pl A l k).length = l.length + 3 * k
  | 0 => rfl
  | k + 1 => by
    show (((s_pl A l k ++ [A 3 k]) ++ [A 4 k % 8]) ++ [A 4 k / 8]).length = l.length + 3 * (k + 1)
    rw [List.length_append, List.length_append, List.length_append, s_pl_l k]
    show l.length + 3 * k + 1 + 1 + 1 = _
    omega
def s_i0 (A : aR) : List Int := [A 0 0 / 256, A 0 0 % 256, A 0 1 / 65536, A 0 1 / 256 % 256, A 0 1 % 256]
noncomputable def s_i1 (G A : aR) : List Int := s_sg (fun k => A 2 k) (s_iz G A (s_i0 A) 64) (G 0 5).toNat
noncomputable def s_i2 (G A : aR) : List Int := s_sg (fun k => A 6 k) (s_sg (fun k => A 5 k) (s_pl A (s_i1 G A) (G 0 6).toNat) (G 0 7).toNat) 10
/-- IMAGE -/
noncomputable def s_im (G A : aR) : List Int := s_i2 G A ++ [s_cn (s_i2 G A) (s_i2 G A).length]
theorem s_i1_l {G A : aR} (hb : s_gx G) : (s_i1 G A).length ≤ 54 + (G 0 5).toNat := by
  have := s_iz_l (A := A) (l := s_i0 A) hb.1.1 64 (Nat.le_refl 64)
  have e : (s_i0 A).length = 5 := rfl
  unfold s_i1
  rw [s_sg_l]
  omega
theorem s_i2_l {G A : aR} (hb : s_gx G) : (s_i2 G A).length ≤ 123 := by
  have h1 := s_i1_l (A := A) hb
  have h5 := hb.2.2.2.1
  have h6 := hb.1.2.2
  have h7 := hb.2.2.2.2.1
  unfold s_i2
  rw [s_sg_l, s_sg_l, s_pl_l]
  omega
/-- what the class has written -/
def cx_wl (l : List Int) (S : dg_S) : Prop := ((zI S 182 1).toInt = l.length ∧ l.length ≤ 124) ∧ (zI S 182 3).toInt = s_cn l l.length ∧ ∀ i, i < l.length → (S.2.1 183 i).toInt = l.getD i 0
def k_im (S S1 : dg_S) : Prop := kp (fun a b => a = 182 ∧ (b = 1 ∨ b = 3)) (fun a => a = 183) S S1
section EP
variable {o oX oM g n p k i : Nat} {G A A' : aR} {K : Nat → List Int} {L L' : s_L} {U : s_U} {F : s_F} {l : List Int} {S S0 S1 SX SM T : dg_S} {x x' r c v t : Int} {a a1 a2 a3 a4 y : Int32}
theorem cx_iput (h : cx_wl l S) (hl : l.length < 124) (ha : a1.toInt = v) (hv : 0 ≤ v ∧ v ≤ 255) : ∃ S1, F_i_put o S a1 = S1 ∧ cx_wl (l ++ [v]) S1 ∧ k_im S S1 := by
  have z1 : (1 : Int32).toInt = 1 := by decide +kernel
  have z5 : (5 : Int32).toInt = 5 := by decide +kernel
  have z251 : (251 : Int32).toInt = 251 := by decide +kernel
  have z124 : (124 : Int32).toInt = 124 := by decide +kernel
  obtain ⟨⟨h1, h2⟩, h3, h4⟩ := h
  have cb := s_cn_b (l := l) l.length
  have q0 : ¬ (124 : Int32) ≤ zI S 182 1 := fun z => by have := dk_gec z124 z; omega
  obtain ⟨S4, e4⟩ : ∃ X, X = dg_uf S 183 (upd (S.2.1 183) (zI S 182 1).toNatClampNeg a1) := ⟨_, rfl⟩
  obtain ⟨S6, e6⟩ : ∃ X, X = dg_uF S4 182 1 (.int (zI S 182 1 + (1 : Int32))) := ⟨_, rfl⟩
  obtain ⟨w, hw⟩ : ∃ w : Int32, w = (5 : Int32) * zI S6 182 3 + a1 := ⟨_, rfl⟩
  obtain ⟨S11, e11⟩ : ∃ X, X = dg_uF S6 182 3 (.int (w - w / (251 : Int32) * (251 : Int32))) := ⟨_, rfl⟩
  have i3 : (zI S6 182 3).toInt = s_cn l l.length := by
    rw [e6, w_I0 (by decide), e4]
    exact h3
  have v5 : ((5 : Int32) * zI S6 182 3).toInt = 5 * s_cn l l.length := dk_mulT z5 i3 (by omega) (by omega)
  have vw : w.toInt = 5 * s_cn l l.length + v := by
    rw [hw]
    exact dk_addT v5 ha (by omega) (by omega)
  have nn : (zI S 182 1).toNatClampNeg = l.length := by rw [dk_clN]; omega
  have len : (l ++ [v]).length = l.length + 1 := by
    rw [List.length_append]
    rfl
  refine ⟨S11, F_i_put_p1 rfl q0 e4 rfl e6 rfl rfl hw rfl e11, ⟨⟨?_, by omega⟩, ?_, fun i hi => ?_⟩, ?_⟩
  · rw [e11, w_I0 (by decide), e6, w_I, if_pos ⟨rfl, rfl⟩, len, dk_addT h1 z1 (by omega) (by omega)]
    omega
  · rw [e11, w_I, if_pos ⟨rfl, rfl⟩, len, dk_remL (by omega) z251 (by decide), vw]
    show _ = (5 * s_cn (l ++ [v]) l.length + (l ++ [v]).getD l.length 0) % 251
    rw [s_cn_ap _ (Nat.le_refl _), getD_ap (Nat.le_refl _), if_pos rfl]
  · rw [len] at hi
    rw [getD_ap (by omega), e11, e6]
    show (S4.2.1 183 i).toInt = _
    rw [e4, w_f, if_pos rfl, w_u, nn]
    by_cases q : i = l.length
    · rw [if_pos q, if_pos q]
      exact ha
    · rw [if_neg q, if_neg q]
      exact h4 i (by omega)
  · rw [e11, e6, e4]
    exact kp.uF (kp.uF (kp.uf kp.rf rfl) ⟨rfl, Or.inl rfl⟩) ⟨rfl, Or.inr rfl⟩
/-- a row is written -/
theorem cx_putAll {f9 : Int32 × dg_S → (Int32 × dg_S) ⊕ dg_S} {z : dg_S} {N q : Nat} {f : Nat → Int} (f0 : ∀ (x : Int32) (T : dg_S), a3 ≤ x → f9 (x, T) = .inr T) (f1 : ∀ (x : Int32) (T : dg_S), ¬ a3 ≤ x → f9 (x, T) = .inl (x + 1, F_i_put o T (T.2.1 q (a2 + x).toNatClampNeg))) (hq : q ≠ 183) (h : cx_wl l S) (h3 : a3.toInt = n) (hN : n + 1 ≤ N) (hl : l.length + n ≤ 124) (h2 : a2.toInt = p) (hp : p ≤ 100) (hf : ∀ i, i < n → (S.2.1 q (p + i)).toInt = f i ∧ 0 ≤ f i ∧ f i ≤ 255) : ∃ S1, lp f9 z N ((0 : Int32), S) = S1 ∧ cx_wl (s_sg f l n) S1 ∧ k_im S S1 := by
  have z0 : (0 : Int32).toInt = 0 := by decide +kernel
  refine lp_cnt (f := f9) (z := z) (W := n) (P := fun i T => cx_wl (s_sg f l i) T ∧ k_im S T) (Q := fun T => ∃ S1, T = S1 ∧ cx_wl (s_sg f l n) S1 ∧ k_im S S1) (by omega) (fun i iI T hi hiI hP => ?_) (fun iI T hiI hP => ⟨_, f0 iI T (w_le.mpr (by omega)), T, rfl, hP⟩) N 0 0 S (by omega) (by omega) z0 ⟨h, kp.rf⟩
  obtain ⟨t1, t2⟩ := hP
  have e2 : (a2 + iI).toInt = (p : Int) + i := dk_addT h2 hiI (by omega) (by omega)
  have n2 : (a2 + iI).toNatClampNeg = p + i := by rw [dk_clN, e2]; omega
  obtain ⟨f2, f3⟩ := hf i hi
  obtain ⟨T1, e1, w1, k1⟩ := cx_iput (o := o) (a1 := T.2.1 q (a2 + iI).toNatClampNeg) (v := f i) t1 (by rw [s_sg_l]; omega) (by rw [n2, (t2.2 q hq).1]; exact f2) f3
  exact ⟨T1, by rw [f1 iI T (fun z => by have := w_le.mp z; omega), e1], w1, t2.tr k1⟩
theorem k_im.rx (h : RX o g G K A L U x S) (k : k_im S S1) : RX o g G K A L U x S1 := by
  have sep := rX_sep h.2.1.1.1
  exact h.keep k (by omega) (by omega) (fun a b _ _ => by omega) (fun b => by omega) (fun b => by omega) (fun a b _ _ => by omega) (fun a _ _ => by omega) (fun a _ _ => by omega) (by omega) (fun a _ _ => by omega)
/-- IMAGE of the class -/
theorem cx_image (ok : s_ok G K A U) (h : RX o g G K A L U x S) : ∃ (S1 : dg_S) (y : Int32), F_d_image o S = (S1, y) ∧ y.toInt = ((s_im G A).length : Int) ∧ cx_wl (s_im G A) S1 ∧ RX o g G K A L U x S1 ∧ k_im S S1 := by
  have z0 : (0 : Int32).toInt = 0 := by decide +kernel
  have z8 : (8 : Int32).toInt = 8 := by decide +kernel
  have z10 : (10 : Int32).toInt = 10 := by decide +kernel
  have z233 : (233 : Int32).toInt = 233 := by decide +kernel
  have s8 : (((8 : Int32) &&& 31).toBitVec.smod 32).toNat = 8 := by decide +kernel
  have s16 : (((16 : Int32) &&& 31).toBitVec.smod 32).toNat = 16 := by decide +kernel
  have hw := ok.2.2.1.1
  have hgb := ok.1.1.1
  have h5 := ok.1.2.2.2.1
  have h6 := ok.1.1.2.2
  have h7 := ok.1.2.2.2.2.1
  obtain ⟨w0, w1, w2, w3, w5, w6⟩ := hw
  have sep := rX_sep h.2.1.1.1
  obtain ⟨S2, e2⟩ : ∃ X, X = dg_uF S 182 1 (.int (0 : Int32)) := ⟨_, rfl⟩
  obtain ⟨S4, e4⟩ : ∃ X, X = dg_uF S2 182 3 (.int (233 : Int32)) := ⟨_, rfl⟩
  have k4 : k_im S S4 := by
    rw [e4, e2]
    exact kp.uF (kp.uF kp.rf ⟨rfl, Or.inl rfl⟩) ⟨rfl, Or.inr rfl⟩
  have l4 : cx_wl [] S4 := by
    refine ⟨⟨?_, by decide⟩, ?_, fun i hi => absurd hi (Nat.not_lt_zero i)⟩
    · rw [e4, w_I0 (by decide), e2, w_I, if_pos ⟨rfl, rfl⟩]
      exact z0
    · rw [e4, w_I, if_pos ⟨rfl, rfl⟩]
      exact z233
  have p0 : (zI S 3 0).toInt = A 0 0 := h.2.2.1.2.1
  have p1 : (zI S 3 1).toInt = A 0 1 := h.2.2.1.2.2.1
  obtain ⟨v0, hv0⟩ : ∃ v : Nat, A 0 0 = v := ⟨(A 0 0).toNat, by omega⟩
  obtain ⟨v1, hv1⟩ : ∃ v : Nat, A 0 1 = v := ⟨(A 0 1).toNat, by omega⟩
  have b31 : ∀ v : Nat, v ≤ 99999 → v < 2 ^ 31 := fun v hv => Nat.lt_of_le_of_lt hv (by decide)
  have f8 : (2 : Nat) ^ 8 = 256 := by decide
  have f16 : (2 : Nat) ^ 16 = 65536 := by decide
  have b1 : (zI S 3 0 >>> ((8 : Int32) &&& 31)).toInt = A 0 0 / 256 := by rw [w_shk (p0.trans hv0) (b31 _ (by omega)) s8, f8, hv0]; omega
  have b2 : (zI S 3 0 &&& (255 : Int32)).toInt = A 0 0 % 256 := by rw [w_255 (by omega), p0]
  obtain ⟨S7, e7, l7, k7⟩ := cx_iput (o := o) l4 (by decide) b1 (by omega)
  obtain ⟨S9, e9, l9, k9⟩ := cx_iput (o := o) l7 (by show 1 < 124; decide) b2 (by omega)
  have c1 : (zI S 3 1 >>> ((16 : Int32) &&& 31)).toInt = A 0 1 / 65536 := by rw [w_shk (p1.trans hv1) (b31 _ (by omega)) s16, f16, hv1]; omega
  have c2 : (zI S 3 1 >>> ((8 : Int32) &&& 31)).toInt = A 0 1 / 256 := by rw [w_shk (p1.trans hv1) (b31 _ (by omega)) s8, f8, hv1]; omega
  have c3 : (zI S 3 1 >>> ((8 : Int32) &&& 31) &&& (255 : Int32)).toInt = A 0 1 / 256 % 256 := by rw [w_255 (by omega), c2]
  have c4 : (zI S 3 1 &&& (255 : Int32)).toInt = A 0 1 % 256 := by rw [w_255 (by omega), p1]
  obtain ⟨S12, e12, l12, k12⟩ := cx_iput (o := o) l9 (by show 2 < 124; decide) c1 (by omega)
  obtain ⟨S15, e15, l15, k15⟩ := cx_iput (o := o) l12 (by show 3 < 124; decide) c3 (by omega)
  obtain ⟨S17, e17, l17, k17⟩ := cx_iput (o := o) l15 (by show 4 < 124; decide) c4 (by omega)
  have l17 : cx_wl (s_i0 A) S17 := l17
  have t17 : k_im S S17 := (((((k4.tr k7).tr k9).tr k12).tr k15).tr k17)
  have keep : ∀ T, k_im S T → RX o g G K A L U x T := fun T k => k_im.rx h k
  have ei : ∀ T, k_im S T → ∀ b, zI T g b = zI S g b := fun T k b => k.I (fun z => by omega)
  have f0' : (zI S g 0).toInt = G 0 0 := h.2.1.2.1.1
  have f1' : (zI S g 1).toInt = G 0 1 := h.2.1.2.1.2.1
  have f6' : (zI S g 6).toInt = G 0 5 := h.2.1.2.1.2.2.2.2.1
  have f8' : (zI S g 8).toInt = G 0 6 := h.2.1.1.2.2.1
  have f11' : (zI S g 11).toInt = G 0 7 := h.2.1.2.1.2.2.2.2.2
  have hl1 := s_i1_l (A := A) ok.1
  have hl2 := s_i2_l (A := A) ok.1
  obtain ⟨R, hR⟩ : ∃ R : Nat, (R : Int) = G 0 1 := ⟨(G 0 1).toNat, by omega⟩
  obtain ⟨C, hC⟩ : ∃ C : Nat, (C : Int) = G 0 0 := ⟨(G 0 0).toNat, by omega⟩
  rw [F_d_image_p0 h.1.symm rfl rfl, F_i_write_p7 e2 e4 rfl rfl e7.symm rfl e9.symm, F_i_write_p6 rfl rfl e12.symm rfl rfl e15.symm rfl e17.symm]
  -- the cells, row by row
  have cells := lp_cnt (f := F_i_write_B5 S g o 3) (z := S) (W := R) (P := fun r T => cx_wl (s_iz G A (s_i0 A) (8 * r)) T ∧ k_im S T) (Q := fun q => ∃ T, q = F_i_write_J2 S g o T 3 ∧ cx_wl (s_iz G A (s_i0 A) (8 * R)) T ∧ k_im S T) (by omega) (fun r rI T hr hrI hP => by
    obtain ⟨t1, t2⟩ := hP
    have e8 : ((8 : Int32) * rI).toInt = 8 * (r : Int) := dk_mulT z8 hrI (by omega) (by omega)
    have e88 : ((8 : Int32) * rI + (8 : Int32)).toInt = ((8 * r + 8 : Nat) : Int) := by rw [dk_addT e8 z8 (by omega) (by omega)]; omega
    have rT := keep T t2
    have len := s_iz_l (A := A) (l := s_i0 A) hgb (8 * r) (by omega)
    have el : (s_i0 A).length = 5 := rfl
    obtain ⟨T1, g1, g2, g3⟩ := cx_putAll (o := o) (f9 := F_i_putAll_cells_B1 (zI S g 0) ((8 : Int32) * rI + (8 : Int32)) 3 o) (z := T) (N := (8 - ((0 : Int32)).toInt).toNat + 1) (q := 3 + 1) (n := C) (p := 8 * r + 8) (f := fun i => cx_en (s_c A ((8 * r + i : Nat) : Int))) (fun x T h => F_i_putAll_cells_p0 h) (fun x T h => F_i_putAll_cells_p1 h rfl rfl rfl rfl) (by decide) t1 (by rw [f0', hC]) (by rw [z0]; omega) (by omega) e88 (by omega) (fun i hi => by
      have hin : s_in G ((8 * r + i : Nat) : Int) := ⟨by omega, by omega, by omega⟩
      obtain ⟨ce, cl, cu⟩ := (rT.2.2.1.1 ((8 * r + 8 + i : Nat) : Int) (by omega) (by omega)).1 (by rw [show ((8 * r + 8 + i : Nat) : Int) - 8 = ((8 * r + i : Nat) : Int) by omega]; exact hin)
      rw [show ((8 * r + 8 + i : Nat) : Int) - 8 = ((8 * r + i : Nat) : Int) by omega] at ce cl cu
      refine ⟨?_, ?_⟩
      · unfold cx_at at ce
        rw [show (((8 * r + 8 + i : Nat) : Int)).toNat = 8 * r + 8 + i by omega] at ce
        exact ce
      · show 0 ≤ cx_en (s_c A ((8 * r + i : Nat) : Int)) ∧ cx_en (s_c A ((8 * r + i : Nat) : Int)) ≤ 255
        unfold cx_en
        split
        · omega
        · split <;> omega)
    have seg : ∀ j : Nat, j ≤ C → s_sg (fun i => cx_en (s_c A ((8 * r + i : Nat) : Int))) (s_iz G A (s_i0 A) (8 * r)) j = s_iz G A (s_i0 A) (8 * r + j) := fun j => by
      induction j with
      | zero => intro _; rfl
      | succ j ih =>
        intro hj
        show s_sg _ _ j ++ [cx_en (s_c A ((8 * r + j : Nat) : Int))] = s_iz G A (s_i0 A) ((8 * r + j) + 1)
        rw [ih (by omega), s_iz_y ⟨by omega, by omega, by omega⟩]
    rw [seg C (Nat.le_refl C)] at g2
    have e9 := s_iz_same (G := G) (A := A) (l := s_i0 A) (c := 8 * r + C) (8 - C) (fun j j1 j2 z => by have := z.2.1; omega)
    rw [show 8 * r + C + (8 - C) = 8 * (r + 1) by omega] at e9
    rw [← e9] at g2
    exact ⟨T1, F_i_write_p5 rfl (fun z => by have := w_le.mp z; rw [f1'] at this; omega) rfl rfl rfl (g1.symm.trans (F_i_putAll_cells_p2).symm) rfl, g2, t2.tr g3⟩) (fun rI T hrI hP => ⟨_, F_i_write_p4 rfl (w_le.mpr (by rw [f1']; omega)), T, rfl, hP⟩) ((8 - ((0 : Int32)).toInt).toNat + 1) 0 0 S17 (by rw [z0]; omega) (by omega) z0 ⟨l17, t17⟩
  obtain ⟨T, eT, lT, kT⟩ := cells
  have e64 := s_iz_same (G := G) (A := A) (l := s_i0 A) (c := 8 * R) (64 - 8 * R) (fun j j1 j2 z => by have := z.2.2; omega)
  rw [show 8 * R + (64 - 8 * R) = 64 by omega] at e64
  rw [← e64] at lT
  have len64 := s_iz_l (A := A) (l := s_i0 A) hgb 64 (Nat.le_refl 64)
  have el : (s_i0 A).length = 5 := rfl
  have rT := keep T kT
  obtain ⟨T1, g1, g2, g3⟩ := cx_putAll (o := o) (f9 := F_i_putAll_hurts_B1 (zI S g 6) 0 3 o) (z := T) (N := (7 - ((0 : Int32)).toInt).toNat + 1) (q := 3 + 2) (n := (G 0 5).toNat) (p := 0) (f := fun k => A 2 k) (fun x T h => F_i_putAll_hurts_p0 h) (fun x T h => F_i_putAll_hurts_p1 h rfl rfl rfl rfl) (by decide) lT (by rw [f6']; omega) (by rw [z0]; omega) (by omega) z0 (by decide) (fun i hi => by
    rw [Nat.zero_add]
    have := w2 i (by omega)
    exact ⟨rT.2.2.1.2.2.2.1 i (by omega), by show 0 ≤ A 2 i ∧ A 2 i ≤ 255; omega⟩)
  have g2 : cx_wl (s_i1 G A) T1 := g2
  have kT1 : k_im S T1 := kT.tr g3
  rw [eT, F_i_write_p3 rfl (g1.symm.trans (F_i_putAll_hurts_p2).symm)]
  -- the plan
  have plan := lp_cnt (f := F_i_write_B4 S g o 3) (z := S) (W := (G 0 6).toNat) (P := fun k T => cx_wl (s_pl A (s_i1 G A) k) T ∧ k_im S T) (Q := fun q => ∃ T, q = F_i_write_J3 S g o T 3 ∧ cx_wl (s_pl A (s_i1 G A) (G 0 6).toNat) T ∧ k_im S T) (by omega) (fun k kI T hk hkI hP => by
    obtain ⟨t1, t2⟩ := hP
    have rT := keep T t2
    have kn : kI.toNatClampNeg = k := by rw [dk_clN]; omega
    obtain ⟨r3, r4⟩ := rT.2.2.1.2.2.2.2.1 k (by omega)
    have r3 : (T.2.1 (3 + 3) kI.toNatClampNeg).toInt = A 3 k := by rw [kn]; exact r3
    obtain ⟨wm, wc⟩ := w3 k (by omega)
    have wc0 := wc.1
    have len := s_pl_l (A := A) (l := s_i1 G A) k
    have la : (s_pl A (s_i1 G A) k ++ [A 3 k]).length = (s_pl A (s_i1 G A) k).length + 1 := by rw [List.length_append]; rfl
    have lb : ((s_pl A (s_i1 G A) k ++ [A 3 k]) ++ [A 4 k % 8]).length = (s_pl A (s_i1 G A) k).length + 2 := by rw [List.length_append, la]; rfl
    obtain ⟨T1, u1, u2, u3⟩ := cx_iput (o := o) t1 (by omega) r3 (by omega)
    have r4 : (T1.2.1 (3 + 4) kI.toNatClampNeg).toInt = A 4 k + 8 := by rw [kn, (u3.2 (3 + 4) (by decide)).1]; exact r4
    obtain ⟨T2, x1, x2, x3⟩ := cx_iput (o := o) (a1 := F_columnOf o T1 (T1.2.1 (3 + 4) kI.toNatClampNeg)) (v := A 4 k % 8) u2 (by omega) (by rw [cx_columnOf (by omega) (by omega), r4]; omega) (by omega)
    obtain ⟨T3, y1, y2, y3⟩ := cx_iput (o := o) (a1 := F_rowOf o T2 (T1.2.1 (3 + 4) kI.toNatClampNeg)) (v := A 4 k / 8) x2 (by omega) (by rw [cx_rowOf (by omega) (by omega), r4]; omega) (by omega)
    exact ⟨T3, F_i_write_p2 rfl (fun z => by have := w_le.mp z; rw [f8'] at this; omega) rfl u1.symm rfl rfl x1.symm rfl y1.symm rfl, y2, ((t2.tr u3).tr x3).tr y3⟩) (fun kI T hkI hP => ⟨_, F_i_write_p1 rfl (w_le.mpr (by rw [f8']; omega)), T, rfl, hP⟩) ((17 - ((0 : Int32)).toInt).toNat + 1) 0 0 T1 (by rw [z0]; omega) (by omega) z0 ⟨g2, kT1⟩
  obtain ⟨T2, eT2, lT2, kT2⟩ := plan
  have lp3 := s_pl_l (A := A) (l := s_i1 G A) (G 0 6).toNat
  have rT2 := keep T2 kT2
  obtain ⟨T3, u1, u2, u3⟩ := cx_putAll (o := o) (f9 := F_i_putAll_sold_B1 (zI S g 11) 0 3 o) (z := T2) (N := (6 - ((0 : Int32)).toInt).toNat + 1) (q := 3 + 5) (n := (G 0 7).toNat) (p := 0) (f := fun k => A 5 k) (fun x T h => F_i_putAll_sold_p0 h) (fun x T h => F_i_putAll_sold_p1 h rfl rfl rfl rfl) (by decide) lT2 (by rw [f11']; omega) (by rw [z0]; omega) (by omega) z0 (by decide) (fun i hi => by
    rw [Nat.zero_add]
    have := w5 i (by omega)
    exact ⟨rT2.2.2.1.2.2.2.2.2.1 i (by omega), by show 0 ≤ A 5 i ∧ A 5 i ≤ 255; omega⟩)
  have kT3 : k_im S T3 := kT2.tr u3
  have rT3 := keep T3 kT3
  have ls := s_sg_l (f := fun k => A 5 k) (l := s_pl A (s_i1 G A) (G 0 6).toNat) (G 0 7).toNat
  obtain ⟨T4, x1, x2, x3⟩ := cx_putAll (o := o) (f9 := F_i_putAll_tubs_B1 10 0 3 o) (z := T3) (N := (11 - ((0 : Int32)).toInt).toNat + 1) (q := 3 + 6) (n := 10) (p := 0) (f := fun k => A 6 k) (fun x T h => F_i_putAll_tubs_p0 h) (fun x T h => F_i_putAll_tubs_p1 h rfl rfl rfl rfl) (by decide) u2 z10 (by rw [z0]; decide) (by omega) z0 (by decide) (fun i hi => by
    rw [Nat.zero_add]
    have := w6 i hi
    exact ⟨rT3.2.2.1.2.2.2.2.2.2 i hi, by show 0 ≤ A 6 i ∧ A 6 i ≤ 255; omega⟩)
  have x2 : cx_wl (s_i2 G A) T4 := x2
  have kT4 : k_im S T4 := kT3.tr x3
  have cb := s_cn_b (l := s_i2 G A) (s_i2 G A).length
  obtain ⟨T5, y1, y2, y3⟩ := cx_iput (o := o) (a1 := zI T4 182 3) x2 (by omega) x2.2.1 (by omega)
  have kT5 : k_im S T5 := kT4.tr y3
  rw [eT2, F_i_write_p0 rfl (u1.symm.trans (F_i_putAll_sold_p2).symm) (x1.symm.trans (F_i_putAll_tubs_p2).symm) rfl y1.symm]
  exact ⟨T5, _, rfl, y2.1.1, y2, keep T5 kT5, kT5⟩
end EP
