section
/-! ON: the class reads the whole of an image -/
noncomputable def s_H (G : aR) : Nat := 5 + s_cp G 64
noncomputable def s_Pp (G : aR) : Nat := s_H G + (G 0 5).toNat
noncomputable def s_Oo (G : aR) : Nat := s_Pp G + 3 * (G 0 6).toNat
noncomputable def s_Tt (G : aR) : Nat := s_Oo G + (G 0 7).toNat
noncomputable def s_Ee (G : aR) : Nat := s_Tt G + 10
/-- AN IMAGE of this mine -/
def s_OV (G : aR) (B : Nat → Int) (n : Nat) : Prop := n = s_Ee G + 1 ∧ (∀ d : Nat, d < 64 → s_in G (d : Int) → s_oc G B 5 d) ∧ (∀ k, k < (G 0 5).toNat → B (s_H G + k) ≤ 1) ∧ (∀ k : Nat, (k : Int) < G 0 6 → B (s_Pp G + 3 * k) < G 0 5 ∧ B (s_Pp G + 3 * k + 1) < G 0 0 ∧ B (s_Pp G + 3 * k + 2) < G 0 1) ∧ (∀ k, k < (G 0 7).toNat → B (s_Oo G + k) ≤ 1) ∧ (∀ k, k < 10 → B (s_Tt G + k) ≤ 99) ∧ B (s_Ee G) = s_cb B (s_Ee G) ∧ 256 * B 0 + B 1 ≤ 999 ∧ 65536 * B 2 + 256 * B 3 + B 4 ≤ 99999
def s_dc (v : Int) : Int := if v = 255 then -1 else if v = 254 then -2 else v
/-- the mine as it tells -/
noncomputable def s_oA (G : aR) (B : Nat → Int) : aR := fun a b => if a = 0 then (if b = 0 then 256 * B 0 + B 1 else 65536 * B 2 + 256 * B 3 + B 4) else if a = 1 then s_dc (B (5 + s_cp G b)) else if a = 2 then (if b < (G 0 5).toNat then B (s_H G + b) else 0) else if a = 3 then B (s_Pp G + 3 * b) else if a = 4 then 8 * B (s_Pp G + 3 * b + 2) + B (s_Pp G + 3 * b + 1) else if a = 5 then (if b < (G 0 7).toNat then B (s_Oo G + b) else 0) else B (s_Tt G + b)
theorem w_shlk {a s : Int32} {v k : Nat} (ha : a.toInt = v) (hv : v ≤ 255) (hk : k ≤ 16) (hs : (s.toBitVec.smod 32).toNat = k) : (a <<< s).toInt = ((v * 2 ^ k : Nat) : Int) := by
  have h1 : 2 ^ k ≤ 2 ^ 16 := Nat.pow_le_pow_right (by decide) hk
  have h2 : v * 2 ^ k ≤ 255 * 2 ^ 16 := Nat.mul_le_mul hv h1
  have e31 : (255 * 2 ^ 16 : Nat) < 2 ^ 31 := by decide
  have e : a = nI v := Int32.toInt_inj.mp (by rw [ha, nI_toInt (Nat.lt_of_le_of_lt hv (by decide))])
  rw [e, pk_shlN s k hs (Nat.lt_of_le_of_lt h2 (by decide)), nI_toInt (Nat.lt_of_le_of_lt h2 e31)]
/-- all fits so far (and Φ), or it is no image -/
def cx_D (n : Nat) (B : Nat → Int) (p : Nat) (T : dg_S) (Φ Ω : Prop) : Prop := (cx_rd n B p T ∧ Φ) ∨ (cx_bd T ∧ ¬ Ω)
section FH
variable {o oX oM g n p q k i N : Nat} {G A A' : aR} {K : Nat → List Int} {B : Nat → Int} {S S0 S1 SX SM T T1 : dg_S} {x x' r c v t m : Int} {a a1 a2 a3 a4 y : Int32}
theorem cx_stp {V W : Nat → Prop} {Φ Ω : Prop} (h : cx_go n B q V W T T1) (D : cx_D n B p T Φ Ω) (hΩ : Ω → p + q ≤ n ∧ V p) : cx_D n B (p + q) T1 (Φ ∧ V p ∧ W p) Ω := by
  rcases D with ⟨d1, d2⟩ | ⟨d1, d2⟩
  · rcases h.1 p d1 with ⟨⟨w1, w2⟩, w3, w4⟩ | ⟨w1, w2⟩
    · exact Or.inl ⟨w3, d2, w2, w4⟩
    · exact Or.inr ⟨w2, fun z => w1 (hΩ z)⟩
  · exact Or.inr ⟨h.2 d1, d2⟩
theorem cx_stq {Φ Ω : Prop} (D : cx_D n B p T Φ Ω) (e3 : zI T1 182 3 = zI T 182 3) (e4 : zI T1 182 4 = zI T 182 4) (e5 : zI T1 182 5 = zI T 182 5) : cx_D n B p T1 Φ Ω := by
  rcases D with ⟨⟨u1, u2, u3, u4⟩, d2⟩ | ⟨d1, d2⟩
  · exact Or.inl ⟨⟨by rw [e5]; exact u1, by rw [e4]; exact u2, u3, by rw [e3]; exact u4⟩, d2⟩
  · refine Or.inr ⟨?_, d2⟩
    unfold cx_bd at d1 ⊢
    rw [e5]
    exact d1
def k_tp (S S1 : dg_S) : Prop := kp (fun a b => (a = 182 ∧ (b = 3 ∨ b = 4 ∨ b = 5)) ∨ (a = 10 ∧ b < 2)) (fun a => 10 < a ∧ a ≤ 16) S S1
theorem k_rd.tp (h : k_rd S S1) : k_tp S S1 := h.w (fun a b z => Or.inl z) (fun a z => z.elim)
theorem k_tp.tape (h : k_tp S S1) (tp : cx_tp n B S) : cx_tp n B S1 := tp.keep h (by omega) (by omega)
set_option maxHeartbeats 8000000 in
theorem cx_tellsPit (hg : cx_g G K S g) (hG : s_gx G) (tp : cx_tp n B S) : ∃ (S1 : dg_S) (y : Int32), F_i_tellsPit o S g 10 = (S1, y) ∧ k_tp S S1 ∧ ((s_OV G B n ∧ y = 1 ∧ cx_pit G (s_oA G B) S1 10) ∨ (¬ s_OV G B n ∧ y = 0)) := by
  have z0 : (0 : Int32).toInt = 0 := by decide +kernel
  have z1 : (1 : Int32).toInt = 1 := by decide +kernel
  have z10 : (10 : Int32).toInt = 10 := by decide +kernel
  have z99 : (99 : Int32).toInt = 99 := by decide +kernel
  have z233 : (233 : Int32).toInt = 233 := by decide +kernel
  have z255 : (255 : Int32).toInt = 255 := by decide +kernel
  have z999 : (999 : Int32).toInt = 999 := by decide +kernel
  have z99999 : (99999 : Int32).toInt = 99999 := by decide +kernel
  have s8 : (((8 : Int32) &&& 31).toBitVec.smod 32).toNat = 8 := by decide +kernel
  have s16 : (((16 : Int32) &&& 31).toBitVec.smod 32).toNat = 16 := by decide +kernel
  have sep := rX_sep hg.1.1
  have h5 := hG.2.2.2.1
  have h6 := hG.1.2.2
  have h7 := hG.2.2.2.2.1
  have eH : s_H G = 5 + s_cp G 64 := rfl
  have eP : s_Pp G = s_H G + (G 0 5).toNat := rfl
  have eO : s_Oo G = s_Pp G + 3 * (G 0 6).toNat := rfl
  have eT : s_Tt G = s_Oo G + (G 0 7).toNat := rfl
  have eE : s_Ee G = s_Tt G + 10 := rfl
  have g6 : (zI S g 6).toInt = (G 0 5).toNat := by rw [hg.2.1.2.2.2.2.1]; omega
  have g11 : (zI S g 11).toInt = (G 0 7).toNat := by rw [hg.2.1.2.2.2.2.2]; omega
  have byt : ∀ i, i < n → B i ≤ 255 := fun i hi => (tp.2.2 i hi).2.2
  obtain ⟨S2, e2⟩ : ∃ X, X = dg_uF S 182 4 (.int (0 : Int32)) := ⟨_, rfl⟩
  obtain ⟨S4, e4⟩ : ∃ X, X = dg_uF S2 182 3 (.int (233 : Int32)) := ⟨_, rfl⟩
  obtain ⟨S6, e6⟩ : ∃ X, X = dg_uF S4 182 5 (.int (1 : Int32)) := ⟨_, rfl⟩
  have k6 : k_tp S S6 := by
    rw [e6, e4, e2]
    exact kp.uF (kp.uF (kp.uF kp.rf (by omega)) (by omega)) (by omega)
  have gk : ∀ T, k_tp S T → cx_g G K T g := fun T t => hg.keep (fun j h1 h2 => (t.2 j (by omega)).1) (fun b => t.I (by omega))
  obtain ⟨S7, e7, k7, p7⟩ := cx_begin (o := o) (gk S6 k6) hG pX_10
  have t7 : k_tp S S7 := k6.tr (k7.w (fun a b z => Or.inr z) (fun a z => z))
  have i7 : ∀ b, zI S7 182 b = zI S6 182 b := fun b => k7.I (by omega)
  have D0 : cx_D n B 0 S7 True (s_OV G B n) := by
    refine Or.inl ⟨⟨?_, ?_, Nat.zero_le n, ?_⟩, trivial⟩
    · rw [i7, e6, w_I, if_pos ⟨rfl, rfl⟩]
      exact z1
    · rw [i7, e6, w_I0 (by decide), e4, w_I0 (by decide), e2, w_I, if_pos ⟨rfl, rfl⟩]
      exact z0
    · rw [i7, e6, w_I0 (by decide), e4, w_I, if_pos ⟨rfl, rfl⟩]
      exact z233
  have lt : ∀ j, j < s_H G → s_OV G B n → j < n := fun j hj w => by have := w.1; omega
  have lt5 : ∀ j, j < 5 → s_OV G B n → j + 1 ≤ n ∧ B j ≤ 255 := fun j hj w => ⟨lt j (by omega) w, byt j (lt j (by omega) w)⟩
  obtain ⟨S9, x8, n9, k9, ga⟩ := cx_next1 (o := o) (m := 255) (t7.tape tp) z255
  have t9 := t7.tr k9.tp
  have D1 := cx_stp ga D0 (lt5 0 (by decide))
  obtain ⟨x11, hx11⟩ : ∃ u : Int32, u = x8 <<< ((8 : Int32) &&& 31) := ⟨_, rfl⟩
  obtain ⟨S12, e12⟩ : ∃ X, X = dg_uF S9 10 0 (.int x11) := ⟨_, rfl⟩
  have t12 : k_tp S S12 := by rw [e12]; exact kp.uF t9 (by omega)
  have D1 := cx_stq (T1 := S12) D1 (by rw [e12, w_I0 (by decide)]) (by rw [e12, w_I0 (by decide)]) (by rw [e12, w_I0 (by decide)])
  obtain ⟨S14, x13, n14, k14, gb⟩ := cx_next1 (o := o) (m := 255) (t12.tape tp) z255
  have t14 := t12.tr k14.tp
  have D2 := cx_stp gb D1 (lt5 1 (by decide))
  obtain ⟨x16, hx16⟩ : ∃ u : Int32, u = x11 + x13 := ⟨_, rfl⟩
  obtain ⟨S17, e17⟩ : ∃ X, X = dg_uF S14 10 0 (.int x16) := ⟨_, rfl⟩
  have t17 : k_tp S S17 := by rw [e17]; exact kp.uF t14 (by omega)
  have D2 := cx_stq (T1 := S17) D2 (by rw [e17, w_I0 (by decide)]) (by rw [e17, w_I0 (by decide)]) (by rw [e17, w_I0 (by decide)])
  obtain ⟨S19, x18, n19, k19, gc⟩ := cx_next1 (o := o) (m := 255) (t17.tape tp) z255
  have t19 := t17.tr k19.tp
  have D3 := cx_stp gc D2 (lt5 2 (by decide))
  obtain ⟨x21, hx21⟩ : ∃ u : Int32, u = x18 <<< ((16 : Int32) &&& 31) := ⟨_, rfl⟩
  obtain ⟨S22, e22⟩ : ∃ X, X = dg_uF S19 10 1 (.int x21) := ⟨_, rfl⟩
  have t22 : k_tp S S22 := by rw [e22]; exact kp.uF t19 (by omega)
  have D3 := cx_stq (T1 := S22) D3 (by rw [e22, w_I0 (by decide)]) (by rw [e22, w_I0 (by decide)]) (by rw [e22, w_I0 (by decide)])
  obtain ⟨S24, x23, n24, k24, gd⟩ := cx_next1 (o := o) (m := 255) (t22.tape tp) z255
  have t24 := t22.tr k24.tp
  have D4 := cx_stp gd D3 (lt5 3 (by decide))
  obtain ⟨x27, hx27⟩ : ∃ u : Int32, u = x21 + x23 <<< ((8 : Int32) &&& 31) := ⟨_, rfl⟩
  obtain ⟨S28, e28⟩ : ∃ X, X = dg_uF S24 10 1 (.int x27) := ⟨_, rfl⟩
  have t28 : k_tp S S28 := by rw [e28]; exact kp.uF t24 (by omega)
  have D4 := cx_stq (T1 := S28) D4 (by rw [e28, w_I0 (by decide)]) (by rw [e28, w_I0 (by decide)]) (by rw [e28, w_I0 (by decide)])
  obtain ⟨S30, x29, n30, k30, ge⟩ := cx_next1 (o := o) (m := 255) (t28.tape tp) z255
  have t30 := t28.tr k30.tp
  have D5 := cx_stp ge D4 (lt5 4 (by decide))
  obtain ⟨x32, hx32⟩ : ∃ u : Int32, u = x27 + x29 := ⟨_, rfl⟩
  obtain ⟨S33, e33⟩ : ∃ X, X = dg_uF S30 10 1 (.int x32) := ⟨_, rfl⟩
  have t33 : k_tp S S33 := by rw [e33]; exact kp.uF t30 (by omega)
  have D5 := cx_stq (T1 := S33) D5 (by rw [e33, w_I0 (by decide)]) (by rw [e33, w_I0 (by decide)]) (by rw [e33, w_I0 (by decide)])
  have row33 : ∀ a, S33.2.1 a = S7.2.1 a := fun a => by
    rw [e33]
    show S30.2.1 a = _
    rw [(k30.2 a id).1, e28]
    show S24.2.1 a = _
    rw [(k24.2 a id).1, e22]
    show S19.2.1 a = _
    rw [(k19.2 a id).1, e17]
    show S14.2.1 a = _
    rw [(k14.2 a id).1, e12]
    show S9.2.1 a = _
    rw [(k9.2 a id).1]
  obtain ⟨S34, n34, k34, c34, gf⟩ := cx_takeCells (o := o) (gk S33 t33) hG (t33.tape tp) (fun j hj => by
    have ce := p7.1 (j : Int) (by omega) (by omega)
    have ev : cx_at S7 10 (j : Int) = (S33.2.1 11 j).toInt := by
      unfold cx_at
      rw [row33, show ((j : Int)).toNat = j by omega]
    rw [ev] at ce
    constructor
    · intro z w
      obtain ⟨c1, c2, c3⟩ := ce.1 w
      rw [z] at c1
      unfold cx_en at c1
      split at c1
      · omega
      · split at c1 <;> omega
    · intro z
      exact ce.2 z)
  have t34 : k_tp S S34 := t33.tr (k34.w (fun a b z => Or.inl z) (fun a z => by omega))
  have D6 := cx_stp gf D5 (fun w => ⟨by have := w.1; omega, w.2.1⟩)
  obtain ⟨S36, n36, k36, c36, gg⟩ := cx_takeAll (o := o) (f9 := F_i_takeAll_hurts_B1 (zI S g 6) o 1 10) (z := S34) (M := (7 - ((0 : Int32)).toInt).toNat + 1) (q := 10 + 2) (N := (G 0 5).toNat) (m := 1) (a2 := zI S g 6) (a3 := 1) (fun x T h => F_i_takeAll_hurts_p0 h) (fun x T h => F_i_takeAll_hurts_p1 h rfl rfl rfl rfl) (by decide) (t34.tape tp) g6 (by omega) (by rw [z0]; omega) z1
  have t36 : k_tp S S36 := t34.tr (k36.w (fun a b z => Or.inl z) (fun a z => by omega))
  have D7 := cx_stp gg D6 (fun w => ⟨by have := w.1; omega, w.2.2.1⟩)
  obtain ⟨S37, n37, k37, gh⟩ := cx_takePlan (o := o) (gk S36 t36) hG (t36.tape tp)
  have t37 : k_tp S S37 := t36.tr (k37.w (fun a b z => Or.inl z) (fun a z => by omega))
  have D8 := cx_stp gh D7 (fun w => ⟨by have := w.1; omega, w.2.2.2.1⟩)
  obtain ⟨S39, n39, k39, c39, gi⟩ := cx_takeAll (o := o) (f9 := F_i_takeAll_sold_B1 (zI S g 11) o 1 10) (z := S37) (M := (6 - ((0 : Int32)).toInt).toNat + 1) (q := 10 + 5) (N := (G 0 7).toNat) (m := 1) (a2 := zI S g 11) (a3 := 1) (fun x T h => F_i_takeAll_sold_p0 h) (fun x T h => F_i_takeAll_sold_p1 h rfl rfl rfl rfl) (by decide) (t37.tape tp) g11 (by omega) (by rw [z0]; omega) z1
  have t39 : k_tp S S39 := t37.tr (k39.w (fun a b z => Or.inl z) (fun a z => by omega))
  have D9 := cx_stp gi D8 (fun w => ⟨by have := w.1; omega, w.2.2.2.2.1⟩)
  obtain ⟨S41, n41, k41, c41, gj⟩ := cx_takeAll (o := o) (f9 := F_i_takeAll_tubs_B1 10 o 99 10) (z := S39) (M := (11 - ((0 : Int32)).toInt).toNat + 1) (q := 10 + 6) (N := 10) (m := 99) (a2 := 10) (a3 := 99) (fun x T h => F_i_takeAll_tubs_p0 h) (fun x T h => F_i_takeAll_tubs_p1 h rfl rfl rfl rfl) (by decide) (t39.tape tp) z10 (by decide) (by rw [z0]; decide) z99
  have t41 : k_tp S S41 := t39.tr (k41.w (fun a b z => Or.inl z) (fun a z => by omega))
  have D10 := cx_stp gj D9 (fun w => ⟨by have := w.1; omega, w.2.2.2.2.2.1⟩)
  obtain ⟨S44, x43, n44, k44, gl⟩ := cx_next1 (o := o) (m := 255) (t41.tape tp) z255
  have t44 : k_tp S S44 := t41.tr k44.tp
  have Q : F_i_tellsPit o S g 10 = F_i_tellsPit_J5 x43 (zI S41 182 3) S44 S x16 x32 := by
    rw [F_i_tellsPit_p10 e2 e4 e6 e7.symm, F_i_tellsPit_p9 (show S9 = _ by rw [n9]) (show x8 = _ by rw [n9]) hx11 e12 (show S14 = _ by rw [n14]) (show x13 = _ by rw [n14]) hx16 e17, F_i_tellsPit_p8 (show S19 = _ by rw [n19]) (show x18 = _ by rw [n19]) hx21 e22 (show S24 = _ by rw [n24]) (show x23 = _ by rw [n24]) rfl hx27 e28, F_i_tellsPit_p7 (show S30 = _ by rw [n30]) (show x29 = _ by rw [n30]) hx32 e33 n34.symm rfl (n36.symm.trans (F_i_takeAll_hurts_p2).symm), F_i_tellsPit_p6 n37.symm rfl (n39.symm.trans (F_i_takeAll_sold_p2).symm) (n41.symm.trans (F_i_takeAll_tubs_p2).symm) rfl (show S44 = _ by rw [n44]) (show x43 = _ by rw [n44])]
  have bad : cx_bd S44 → F_i_tellsPit o S g 10 = (S44, 0) := fun b => by
    rw [Q]
    by_cases q : x43 = zI S41 182 3
    · exact F_i_tellsPit_p1 q rfl (dk_eqp z0 b)
    · exact F_i_tellsPit_p0 q
  rcases (show (_ ∧ _) ∨ (_ ∧ _) from D10) with ⟨rd, Φ⟩ | ⟨b, nV⟩
  rotate_left
  · exact ⟨S44, 0, bad (gl.2 b), t44, Or.inr ⟨nV, rfl⟩⟩
  rcases gl.1 _ rd with ⟨⟨w1, -⟩, ⟨r1, r2, r3, r4⟩, w3⟩ | ⟨w1, w2⟩
  rotate_left
  · refine ⟨S44, 0, bad w2, t44, Or.inr ⟨fun z => w1 ?_, rfl⟩⟩
    have z := z.1
    exact ⟨by omega, byt _ (by omega)⟩
  obtain ⟨⟨⟨⟨⟨⟨⟨⟨⟨⟨-, -, b0⟩, -, b1⟩, -, b2⟩, -, b3⟩, -, b4⟩, v5, w5⟩, v6, w6⟩, v7, w7⟩, v8, w8⟩, v9, w9⟩ := Φ
  have b0 : x8.toInt = B 0 := b0
  have b1 : x13.toInt = B 1 := b1
  have b2 : x18.toInt = B 2 := b2
  have b3 : x23.toInt = B 3 := b3
  have b4 : x29.toInt = B 4 := b4
  have w3 : x43.toInt = B (s_Ee G) := w3
  have w1 : s_Ee G + 1 ≤ n := w1
  have r2 : (zI S44 182 4).toInt = ((s_Ee G + 1 : Nat) : Int) := r2
  have r42 : (zI S41 182 3).toInt = s_cb B (s_Ee G) := rd.2.2.2
  have y0 := tp.2.2 0 (by omega)
  have y1 := tp.2.2 1 (by omega)
  have y2 := tp.2.2 2 (by omega)
  have y3 := tp.2.2 3 (by omega)
  have y4 := tp.2.2 4 (by omega)
  have sh : ∀ (u s : Int32) (j k : Nat), u.toInt = B j → 0 ≤ B j ∧ B j ≤ 255 → k ≤ 16 → (s.toBitVec.smod 32).toNat = k → (u <<< s).toInt = B j * ((2 ^ k : Nat) : Int) := fun u s j k hu hb hk hs => by
    rw [w_shlk (v := (B j).toNat) (by omega) (by omega) hk hs, Int.natCast_mul, show (((B j).toNat : Nat) : Int) = B j by omega]
  have e8 : ((2 ^ 8 : Nat) : Int) = 256 := by decide
  have e16 : ((2 ^ 16 : Nat) : Int) = 65536 := by decide
  have v11 : x11.toInt = B 0 * 256 := by rw [hx11, sh x8 _ 0 8 b0 y0.2 (by decide) s8, e8]
  have v16 : x16.toInt = 256 * B 0 + B 1 := by rw [hx16, dk_addT v11 b1 (by omega) (by omega)]; omega
  have v21 : x21.toInt = B 2 * 65536 := by rw [hx21, sh x18 _ 2 16 b2 y2.2 (by decide) s16, e16]
  have v26 : (x23 <<< ((8 : Int32) &&& 31)).toInt = B 3 * 256 := by rw [sh x23 _ 3 8 b3 y3.2 (by decide) s8, e8]
  have v27 : x27.toInt = B 2 * 65536 + B 3 * 256 := by rw [hx27, dk_addT v21 v26 (by omega) (by omega)]
  have v32 : x32.toInt = 65536 * B 2 + 256 * B 3 + B 4 := by rw [hx32, dk_addT v27 b4 (by omega) (by omega)]; omega
  by_cases q1 : x43 = zI S41 182 3
  rotate_left
  · exact ⟨S44, 0, Q.trans (F_i_tellsPit_p0 q1), t44, Or.inr ⟨fun z => q1 (Int32.toInt_inj.mp (by rw [w3, r42]; exact z.2.2.2.2.2.2.1)), rfl⟩⟩
  have d1 := w_eq.mp q1
  rw [w3, r42] at d1
  have nf : ¬ zI S44 182 5 = (0 : Int32) := fun z => by have := dk_eqc z0 z; omega
  by_cases q2 : zI S44 182 4 = zI S 1 1
  rotate_left
  · refine ⟨S44, 0, Q.trans (F_i_tellsPit_p2 q1 rfl nf rfl rfl q2), t44, Or.inr ⟨fun z => q2 (Int32.toInt_inj.mp ?_), rfl⟩⟩
    rw [r2, tp.1]
    have := z.1
    omega
  have d2 := w_eq.mp q2
  rw [r2, tp.1] at d2
  by_cases q3 : (999 : Int32) < x16
  · have d3 := dk_gtc z999 q3
    exact ⟨S44, 0, Q.trans (F_i_tellsPit_p3 q1 rfl nf rfl rfl q2 q3), t44, Or.inr ⟨fun z => by have := z.2.2.2.2.2.2.2.1; omega, rfl⟩⟩
  have d3 : ¬ (999 : Int32).toInt < x16.toInt := fun z => q3 (w_lt.mpr z)
  by_cases q4 : (99999 : Int32) < x32
  · have d4 := dk_gtc z99999 q4
    exact ⟨S44, 0, Q.trans (F_i_tellsPit_p4 q1 rfl nf rfl rfl q2 q3 q4), t44, Or.inr ⟨fun z => by have := z.2.2.2.2.2.2.2.2; omega, rfl⟩⟩
  have d4 : ¬ (99999 : Int32).toInt < x32.toInt := fun z => q4 (w_lt.mpr z)
  have hV : s_OV G B n := ⟨by omega, v5, v6, v7, v8, v9, d1, by omega, by omega⟩
  refine ⟨S44, 1, Q.trans (F_i_tellsPit_p5 q1 rfl nf rfl rfl q2 q3 q4), t44, Or.inl ⟨hV, rfl, ?_⟩⟩
  have f0 : zI S44 10 0 = x16 := by
    rw [k44.I (by omega), k41.I (by omega), k39.I (by omega), k37.I (by omega), k36.I (by omega), k34.I (by omega), e33, w_I0 (by decide), k30.I (by omega), e28, w_I0 (by decide), k24.I (by omega), e22, w_I0 (by decide), k19.I (by omega), e17, w_I, if_pos ⟨rfl, rfl⟩]
  have f1 : zI S44 10 1 = x32 := by
    rw [k44.I (by omega), k41.I (by omega), k39.I (by omega), k37.I (by omega), k36.I (by omega), k34.I (by omega), e33, w_I, if_pos ⟨rfl, rfl⟩]
  have row : ∀ a, a ≠ 16 → a ≠ 15 → a ≠ 13 → a ≠ 14 → a ≠ 12 → S44.2.1 a = S34.2.1 a := fun a h1 h2 h3 h4 h5 => by
    rw [(k44.2 a id).1, (k41.2 a h1).1, (k39.2 a h2).1, (k37.2 a (by omega)).1, (k36.2 a h5).1]
  have row12 : S44.2.1 12 = S36.2.1 12 := by rw [(k44.2 12 id).1, (k41.2 12 (by decide)).1, (k39.2 12 (by decide)).1, (k37.2 12 (by decide)).1]
  have row13 : ∀ a, a = 13 ∨ a = 14 → S44.2.1 a = S37.2.1 a := fun a h => by rw [(k44.2 a id).1, (k41.2 a (by omega)).1, (k39.2 a (by omega)).1]
  have row15 : S44.2.1 15 = S39.2.1 15 := by rw [(k44.2 15 id).1, (k41.2 15 (by decide)).1]
  have row16 : S44.2.1 16 = S41.2.1 16 := (k44.2 16 id).1
  refine ⟨fun x0 hx0 hx1 => ?_, by rw [f0, v16]; rfl, by rw [f1, v32]; rfl, fun k hk => ?_, fun k hk => ?_, fun k hk => ?_, fun k hk => ?_⟩
  · obtain ⟨j, hj⟩ : ∃ j : Nat, x0 = j := ⟨x0.toNat, by omega⟩
    subst hj
    have ev : cx_at S44 10 (j : Int) = (S34.2.1 11 j).toInt := by
      unfold cx_at
      rw [show ((j : Int)).toNat = j by omega]
      show (S44.2.1 11 j).toInt = _
      rw [row 11 (by decide) (by decide) (by decide) (by decide) (by decide)]
    rw [ev]
    refine ⟨fun hin => ?_, fun hn => ?_⟩
    · have hin0 := hin.1
      obtain ⟨d, hd⟩ : ∃ d : Nat, j = d + 8 := ⟨j - 8, by omega⟩
      rw [show (j : Int) - 8 = (d : Int) by omega] at hin ⊢
      have wv := w5 d (by omega) hin
      rw [← hd] at wv
      have ok9 := (v5 d (by omega) hin).1
      have wv : (S34.2.1 11 j).toInt = B (5 + s_cp G d) := wv
      have ok9 : B (5 + s_cp G d) ≤ 9 ∨ 254 ≤ B (5 + s_cp G d) := ok9
      have es : s_c (s_oA G B) (d : Int) = s_dc (B (5 + s_cp G d)) := by
        show s_dc (B (5 + s_cp G ((d : Int)).toNat)) = _
        rw [show ((d : Int)).toNat = d by omega]
      have mono : 5 + s_cp G d < n := by
        have h1 : ∀ e : Nat, s_cp G (d + 1) ≤ s_cp G (d + 1 + e) := fun e => by
          induction e with
          | zero => exact Nat.le_refl _
          | succ e ih =>
            have : s_cp G (d + 1 + e) ≤ s_cp G (d + 1 + e + 1) := by
              by_cases u : s_in G ((d + 1 + e : Nat) : Int)
              · rw [s_cp_y u]; omega
              · rw [s_cp_n u]; exact Nat.le_refl _
            exact Nat.le_trans ih this
        have h2 := h1 (64 - (d + 1))
        rw [show d + 1 + (64 - (d + 1)) = 64 by omega, s_cp_y hin] at h2
        omega
      have bb := (tp.2.2 _ mono).2
      rw [wv, es]
      unfold s_dc cx_en
      by_cases u1 : B (5 + s_cp G d) = 255
      · rw [if_pos u1, if_pos rfl]
        exact ⟨u1, by decide, by decide⟩
      · rw [if_neg u1]
        by_cases u2 : B (5 + s_cp G d) = 254
        · rw [if_pos u2, if_neg (by decide), if_pos rfl]
          exact ⟨u2, by decide, by decide⟩
        · rw [if_neg u2, if_neg (by omega), if_neg (by omega)]
          exact ⟨rfl, by omega, by omega⟩
    · rw [c34 j (by omega) hn, row33]
      have ce := (p7.1 (j : Int) (by omega) (by omega)).2 hn
      unfold cx_at at ce
      rw [show ((j : Int)).toNat = j by omega] at ce
      exact ce
  · show (S44.2.1 12 k).toInt = if k < (G 0 5).toNat then B (s_H G + k) else 0
    rw [row12]
    by_cases u : k < (G 0 5).toNat
    · rw [if_pos u]
      exact w6 k u
    · rw [if_neg u]
      have e := c36 k (by omega)
      have e : S36.2.1 12 k = S34.2.1 12 k := e
      rw [e, (k34.2 12 (by decide)).1, row33]
      exact p7.2.2.2.1 k hk
  · obtain ⟨u1, u2⟩ := w7 k hk
    refine ⟨?_, ?_⟩
    · show (S44.2.1 13 k).toInt = B (s_Pp G + 3 * k)
      rw [row13 13 (Or.inl rfl)]
      exact u1
    · show (S44.2.1 14 k).toInt = 8 * B (s_Pp G + 3 * k + 2) + B (s_Pp G + 3 * k + 1) + 8
      rw [row13 14 (Or.inr rfl)]
      exact u2
  · show (S44.2.1 15 k).toInt = if k < (G 0 7).toNat then B (s_Oo G + k) else 0
    rw [row15]
    by_cases u : k < (G 0 7).toNat
    · rw [if_pos u]
      exact w8 k u
    · rw [if_neg u]
      have e := c39 k (by omega)
      have e : S39.2.1 15 k = S37.2.1 15 k := e
      rw [e, (k37.2 15 (by decide)).1, (k36.2 15 (by decide)).1, (k34.2 15 (by decide)).1, row33]
      exact p7.2.2.2.2.2.1 k hk
  · show (S44.2.1 16 k).toInt = B (s_Tt G + k)
    rw [row16]
    exact w9 k hk
end FH
end
section
/-! ON: the class, whole -/
theorem s_cp_up {G : aR} {c : Nat} : ∀ e : Nat, s_cp G c ≤ s_cp G (c + e) := by
  intro e
  induction e with
  | zero => exact Nat.le_refl _
  | succ e ih =>
    by_cases q : s_in G ((c + e : Nat) : Int)
    · have := s_cp_y q
      rw [show c + (e + 1) = (c + e) + 1 by omega]
      omega
    · have := s_cp_n q
      rw [show c + (e + 1) = (c + e) + 1 by omega]
      omega
theorem s_cp_lt {G : aR} {d : Nat} (h : s_in G (d : Int)) : s_cp G d < s_cp G 64 := by
  have h1 := s_cp_y h
  have h2 := h.1
  have h3 := s_cp_up (G := G) (c := d + 1) (63 - d)
  rw [show d + 1 + (63 - d) = 64 by omega] at h3
  omega
section FI
variable {o oX oM g n p q k i N : Nat} {G A A' : aR} {K : Nat → List Int} {B : Nat → Int} {L : s_L} {U : s_U} {S S0 S1 SX SM T T1 : dg_S} {x x' r c v t m : Int} {a a1 a2 a3 a4 y : Int32}
theorem s_oA_wf (hG : s_gx G) (V : s_OV G B n) (tb : ∀ i, i < n → 0 ≤ B i ∧ B i ≤ 255) : s_wf G (s_oA G B) ∧ s_cw G (s_oA G B) := by
  obtain ⟨⟨⟨⟨w1, w2⟩, w3, w4⟩, ⟨u1, u2⟩, u3, u4⟩, -, -, ⟨v1, v2⟩, ⟨t1, t2⟩, -⟩ := hG
  have eH : s_H G = 5 + s_cp G 64 := rfl
  have eP : s_Pp G = s_H G + (G 0 5).toNat := rfl
  have eO : s_Oo G = s_Pp G + 3 * (G 0 6).toNat := rfl
  have eT : s_Tt G = s_Oo G + (G 0 7).toNat := rfl
  have eE : s_Ee G = s_Tt G + 10 := rfl
  obtain ⟨e1, e2, e3, e4, e5, e6, -, e8, e9⟩ := V
  have b0 := tb 0 (by omega)
  have b1 := tb 1 (by omega)
  have b2 := tb 2 (by omega)
  have b3 := tb 3 (by omega)
  have b4 := tb 4 (by omega)
  have cel : ∀ c : Int, s_in G c → (0 ≤ B (5 + s_cp G c.toNat) ∧ B (5 + s_cp G c.toNat) ≤ 255) ∧ s_oc G B 5 c.toNat := by
    intro c hc
    have h0 := hc.1
    have hd : ((c.toNat : Nat) : Int) = c := by omega
    have hc2 : s_in G ((c.toNat : Nat) : Int) := by rw [hd]; exact hc
    have h2 := s_cp_lt hc2
    exact ⟨tb _ (by omega), e2 _ (by omega) hc2⟩
  refine ⟨⟨⟨?_, ?_⟩, ⟨?_, ?_⟩, fun k hk => ?_, fun k hk => ⟨⟨?_, ?_⟩, ?_⟩, fun k hk => ?_, fun k hk => ?_⟩, fun c hc => ?_, ?_, ?_⟩
  · show 0 ≤ 256 * B 0 + B 1
    omega
  · show 256 * B 0 + B 1 ≤ 999
    omega
  · show 0 ≤ 65536 * B 2 + 256 * B 3 + B 4
    omega
  · show 65536 * B 2 + 256 * B 3 + B 4 ≤ 99999
    omega
  · show (if k < (G 0 5).toNat then B (s_H G + k) else 0) = 0 ∨ ((if k < (G 0 5).toNat then B (s_H G + k) else 0) = 1 ∧ (k : Int) < G 0 5)
    by_cases q : k < (G 0 5).toNat
    · rw [if_pos q]
      have h1 := tb (s_H G + k) (by omega)
      have h2 := e3 k q
      omega
    · rw [if_neg q]
      exact Or.inl rfl
  · show 0 ≤ B (s_Pp G + 3 * k)
    exact (tb _ (by omega)).1
  · show B (s_Pp G + 3 * k) < min 6 (G 0 5)
    have h1 := (e4 k hk).1
    omega
  · have h1 := e4 k hk
    have h2 := tb (s_Pp G + 3 * k + 1) (by omega)
    have h3 := tb (s_Pp G + 3 * k + 2) (by omega)
    show s_in G (8 * B (s_Pp G + 3 * k + 2) + B (s_Pp G + 3 * k + 1))
    generalize B (s_Pp G + 3 * k + 2) = z2 at h1 h3 ⊢
    generalize B (s_Pp G + 3 * k + 1) = z1 at h1 h2 ⊢
    refine ⟨⟨?_, ?_⟩, ?_, ?_⟩ <;> omega
  · show (if k < (G 0 7).toNat then B (s_Oo G + k) else 0) = 0 ∨ (if k < (G 0 7).toNat then B (s_Oo G + k) else 0) = 1
    by_cases q : k < (G 0 7).toNat
    · rw [if_pos q]
      have h1 := tb (s_Oo G + k) (by omega)
      have h2 := e5 k q
      omega
    · rw [if_neg q]
      exact Or.inl rfl
  · show 0 ≤ B (s_Tt G + k) ∧ B (s_Tt G + k) ≤ 99
    exact ⟨(tb _ (by omega)).1, e6 k hk⟩
  · obtain ⟨h1, h2, -⟩ := cel c hc
    show -2 ≤ s_dc (B (5 + s_cp G c.toNat)) ∧ s_dc (B (5 + s_cp G c.toNat)) ≤ 9
    generalize B (5 + s_cp G c.toNat) = z at h1 h2 ⊢
    unfold s_dc
    by_cases q1 : z = 255
    · rw [if_pos q1]
      decide
    · rw [if_neg q1]
      by_cases q2 : z = 254
      · rw [if_pos q2]
        decide
      · rw [if_neg q2]
        omega
  · refine ⟨⟨?_, ?_⟩, ?_, ?_⟩ <;> omega
  · have hin : s_in G (G 0 2) := by refine ⟨⟨?_, ?_⟩, ?_, ?_⟩ <;> omega
    obtain ⟨h1, -, h2⟩ := cel _ hin
    show s_dc (B (5 + s_cp G (G 0 2).toNat)) = -1
    rw [h2 (by omega)]
    rfl
/-- what an image read leaves -/
theorem cx_on (hG : s_gx G) (h : RX o g G K A L U x S) (tp : cx_tp n B S) : ∃ (S1 : dg_S) (y : Int32), F_d_on o S = (S1, y) ∧ (zI S1 1 1).toInt = 0 ∧ ((s_OV G B n ∧ y = 1 ∧ RX o g G K (s_oA G B) [] [] x S1 ∧ S1.2.1 184 = S.2.1 184 ∧ zI S1 221 2 = 0 ∧ zI S1 221 3 = 0 ∧ zI S1 229 4 = 0) ∨ (¬ s_OV G B n ∧ y = 0 ∧ RX o g G K A L U x S1 ∧ S1.2.1 184 = upd (S.2.1 184) 5 (S.2.1 184 5 + (1 : Int32)) ∧ ∀ a b, a = 221 ∨ a = 229 → zI S1 a b = zI S a b)) ∧ kp (fun a b => (a = 182 ∧ 3 ≤ b) ∨ (a = 10 ∧ b < 2) ∨ (a = 3 ∧ b < 2) ∨ (a = 1 ∧ b = 1) ∨ (a = 17 ∧ (b = 1 ∨ b = 2)) ∨ (a = 221 ∧ (b = 2 ∨ b = 3)) ∨ (a = 229 ∧ b = 4)) (fun a => (3 ≤ a ∧ a ≤ 16) ∨ a = 184) S S1 := by
  have z0 : (0 : Int32).toInt = 0 := by decide +kernel
  have hb := hG.1.2.2.2
  have e0 := h.1
  have hg := h.2.1
  have sep := rX_sep hg.1.1
  have hs : ¬ F_g_hasSeam o S g = (0 : Int32) := by
    have h0 := hG.1.1.1.1
    rw [F_g_hasSeam_p1 rfl (fun z => by have := dk_lec (k := 0) (by decide +kernel) z; have := hg.2.1.1; omega)]
    decide +kernel
  obtain ⟨S1, y, e1, k1, D⟩ := cx_tellsPit (o := o) hg hG tp
  obtain ⟨S2, e2⟩ : ∃ X, X = dg_uF S1 1 1 (.int (0 : Int32)) := ⟨_, rfl⟩
  have t1 : kp (fun a b => (a = 182 ∧ 3 ≤ b) ∨ (a = 10 ∧ b < 2) ∨ (a = 1 ∧ b = 1)) (fun a => 10 < a ∧ a ≤ 16) S S1 := k1.w (fun a b z => by omega) (fun a z => z)
  have t2 : kp (fun a b => (a = 182 ∧ 3 ≤ b) ∨ (a = 10 ∧ b < 2) ∨ (a = 1 ∧ b = 1)) (fun a => 10 < a ∧ a ≤ 16) S S2 := by
    rw [e2]
    exact kp.uF t1 (by omega)
  have f2 : zI S2 1 1 = 0 := by rw [e2, w_I, if_pos ⟨rfl, rfl⟩]
  have r2 : RX o g G K A L U x S2 := h.keep t2 (by omega) (by omega) (fun a b _ _ => by omega) (fun b => by omega) (fun b => by omega) (fun a b _ _ => by omega) (fun a _ _ => by omega) (fun a _ _ => by omega) (by omega) (fun a _ _ => by omega)
  rcases D with ⟨hV, hy, pt⟩ | ⟨hV, hy⟩
  · have pt2 : cx_pit G (s_oA G B) S2 10 := by
      rw [e2]
      exact pt.keep (fun _ _ _ => rfl) (fun b _ => w_I0 (by omega))
    obtain ⟨S3, e3, k3, p3⟩ := cx_copy (o := o) pX_3' pX_10 (by decide) pt2 hb
    obtain ⟨S4, e4⟩ : ∃ X, X = dg_uF S3 17 1 (.int (0 : Int32)) := ⟨_, rfl⟩
    obtain ⟨S5, e5⟩ : ∃ X, X = dg_uF S4 17 2 (.int (0 : Int32)) := ⟨_, rfl⟩
    have ec : F_h_clear o S3 = S5 := by rw [e5, e4]; rfl
    have k5 : kp (fun a b => (a = 3 ∧ b < 2) ∨ (a = 17 ∧ (b = 1 ∨ b = 2))) (fun a => 3 < a ∧ a ≤ 9) S2 S5 := by
      rw [e5, e4]
      exact kp.uF (kp.uF (k3.w (fun a b z => by omega) (fun a z => by omega)) (by omega)) (by omega)
    obtain ⟨S6, e6⟩ : ∃ X, X = F_d_forgetTrials o S5 := ⟨_, rfl⟩
    have kf := cx_forget (o := o) (S := S5)
    rw [← e6] at kf
    have q1 : ¬ y = (0 : Int32) := by rw [hy]; decide
    have k6 : kp (fun a b => (a = 3 ∧ b < 2) ∨ (a = 17 ∧ (b = 1 ∨ b = 2)) ∨ (a = 221 ∧ (b = 2 ∨ b = 3)) ∨ (a = 229 ∧ b = 4)) (fun a => 3 < a ∧ a ≤ 9) S2 S6 := (k5.w (fun a b z => by omega) (fun a z => z)).tr (kf.w (fun a b z => by omega) (fun a z => z.elim))
    have kk : kp (fun a b => (a = 182 ∧ 3 ≤ b) ∨ (a = 10 ∧ b < 2) ∨ (a = 3 ∧ b < 2) ∨ (a = 1 ∧ b = 1) ∨ (a = 17 ∧ (b = 1 ∨ b = 2)) ∨ (a = 221 ∧ (b = 2 ∨ b = 3)) ∨ (a = 229 ∧ b = 4)) (fun a => (3 ≤ a ∧ a ≤ 16) ∨ a = 184) S S6 := (t2.w (fun a b z => by omega) (fun a z => by omega)).tr (k6.w (fun a b z => by omega) (fun a z => by omega))
    have eF : S6 = dg_uF (dg_uF (dg_uF S5 221 2 (.int 0)) 221 3 (.int 0)) 229 4 (.int 0) := by
      rw [e6, F_d_forgetTrials_p0 rfl rfl, F_e_forget_p0 rfl, F_f_forget_p0 rfl rfl]
    refine ⟨S6, 1, ?_, ?_, Or.inl ⟨hV, rfl, ⟨?_, ?_, ?_, ?_, ?_, ?_⟩, ?_, ?_, ?_, ?_⟩, kk⟩
    · rw [F_d_on_p3 e0.symm rfl hs (show S1 = _ by rw [e1]) (show y = _ by rw [e1]) q1 e2 e3.symm ec.symm, F_d_on_p2 e6]
    · rw [k6.I (by omega), f2]
      exact z0
    · rw [k6.R (by omega)]
      exact r2.1
    · exact r2.2.1.keep (fun i _ _ => (k6.2 i (by omega)).1) (fun b => k6.I (by omega))
    · refine p3.keep (fun i i0 i1 => ?_) (fun b hb2 => ?_)
      · rw [(kf.2 i id).1, e5, e4]
        rfl
      · rw [kf.I (by omega), e5, w_I0 (by omega), e4, w_I0 (by omega)]
    · refine ⟨?_, by decide, fun i hi => absurd hi (Nat.not_lt_zero _)⟩
      rw [kf.I (by omega), e5, w_I, if_neg (by omega), e4, w_I, if_pos ⟨rfl, rfl⟩]
      exact z0
    · obtain ⟨nx, n1, n2, -⟩ := h.2.2.2.2.1.2.2
      refine ⟨?_, by decide, nx, n1, ?_, fun i e he => by simp at he⟩
      · rw [kf.I (by omega), e5, w_I, if_pos ⟨rfl, rfl⟩]
        exact z0
      · rw [k6.I (by omega), t2.I (by omega)]
        exact n2
    · rw [k6.I (by omega)]
      exact r2.2.2.2.2.2
    · rw [(k6.2 184 (by omega)).1, (t2.2 184 (by omega)).1]
    · rw [eF, w_I0 (by omega), w_I, if_neg (by omega), w_I, if_pos ⟨rfl, rfl⟩]
    · rw [eF, w_I0 (by omega), w_I, if_pos ⟨rfl, rfl⟩]
    · rw [eF, w_I, if_pos ⟨rfl, rfl⟩]
  · obtain ⟨S3, e3, -, r3, es⟩ := cx_no (o := o) (a1 := 5) (k := 5) r2 (by decide +kernel)
    have k3 : kp (fun _ _ => False) (fun a => a = 184) S2 S3 := by rw [es]; exact kp.uf kp.rf rfl
    have row : S2.2.1 184 = S.2.1 184 := (t2.2 184 (by omega)).1
    refine ⟨S3, 0, ?_, ?_, Or.inr ⟨hV, rfl, r3, ?_, fun a b hab => ?_⟩, (t2.w (fun a b z => by omega) (fun a z => by omega)).tr (k3.w (fun a b z => z.elim) (fun a z => by omega))⟩
    · exact F_d_on_p1 e0.symm rfl hs (show S1 = _ by rw [e1]) (show y = _ by rw [e1]) hy e2 (show S3 = _ by rw [e3]) (show (0 : Int32) = _ by rw [e3])
    · rw [k3.I id, f2]
      exact z0
    · rw [es, w_f, if_pos rfl, row]
    · rw [k3.I id, t2.I (by omega)]
end FI
end
section
/-! ON: the reference reads an image -/
def s_cN (w h : Nat) : Nat → Nat
  | 0 => 0
  | c + 1 => s_cN w h c + if c % 8 < w ∧ c / 8 < h then 1 else 0
theorem s_cN_64 : ∀ w : Nat, w < 8 → ∀ h : Nat, h < 8 → s_cN w h 64 = w * h := by decide +kernel
theorem s_cp_cN {G : aR} {w h : Nat} (hw : G 0 0 = w) (hh : G 0 1 = h) : ∀ c : Nat, c ≤ 64 → s_cp G c = s_cN w h c
  | 0, _ => rfl
  | c + 1, hc => by
    have ih := s_cp_cN hw hh c (by omega)
    by_cases q : s_in G (c : Int)
    · obtain ⟨-, q1, q2⟩ := id q
      rw [s_cp_y q, ih]
      show _ = s_cN w h c + if c % 8 < w ∧ c / 8 < h then 1 else 0
      rw [if_pos ⟨by omega, by omega⟩]
    · rw [s_cp_n q, ih]
      show _ = s_cN w h c + if c % 8 < w ∧ c / 8 < h then 1 else 0
      rw [if_neg (fun z => q ⟨⟨by omega, by omega⟩, by omega, by omega⟩)]
      rfl
theorem s_cp64 {G : aR} (hG : s_gw G) : ((s_cp G 64 : Nat) : Int) = G 0 0 * G 0 1 ∧ s_cp G 64 ≤ 49 := by
  obtain ⟨⟨⟨w1, w2⟩, w3, w4⟩, -⟩ := hG
  obtain ⟨w, hw⟩ : ∃ w : Nat, G 0 0 = w := ⟨(G 0 0).toNat, by omega⟩
  obtain ⟨h, hh⟩ : ∃ h : Nat, G 0 1 = h := ⟨(G 0 1).toNat, by omega⟩
  rw [s_cp_cN hw hh 64 (Nat.le_refl _), s_cN_64 w (by omega) h (by omega), hw, hh]
  have b : w * h ≤ 7 * 7 := Nat.mul_le_mul (by omega) (by omega)
  exact ⟨Int.natCast_mul w h, b⟩
/-- bits side by side -/
theorem w_orN {x y : Int32} {r a b : Nat} (hr : r ≤ 29) (hx : x.toInt = ((2 ^ r * a : Nat) : Int)) (hy : y.toInt = b) (hb : b < 2 ^ r) (h31 : 2 ^ r * a + b < 2147483648) : (x ||| y).toInt = ((2 ^ r * a + b : Nat) : Int) := by
  have c1 := BitVec.toInt_eq_toNat_cond x.toBitVec
  have c2 := BitVec.toInt_eq_toNat_cond y.toBitVec
  have c3 := BitVec.toInt_eq_toNat_cond (x ||| y).toBitVec
  rw [Int32.toInt_toBitVec] at c1 c2 c3
  have b1 := x.toBitVec.isLt
  have b2 := y.toBitVec.isLt
  have e32 : (2 : Nat) ^ 32 = 4294967296 := by decide
  rw [e32] at c1 c2 c3 b1 b2
  have n1 : x.toBitVec.toNat = 2 ^ r * a := by
    generalize 2 ^ r * a = p at *
    split at c1 <;> omega
  have n2 : y.toBitVec.toNat = b := by
    generalize 2 ^ r * a = p at *
    split at c2 <;> omega
  have eo : (x ||| y).toBitVec.toNat = 2 ^ r * a + b := by
    show (x.toBitVec ||| y.toBitVec).toNat = _
    rw [BitVec.toNat_or, n1, n2]
    exact (Nat.two_pow_add_eq_or_of_lt (i := r) (b := b) hb a).symm
  rw [eo] at c3
  generalize 2 ^ r * a + b = p at *
  rw [if_pos (by omega)] at c3
  exact c3
theorem s_dc_9 {v : Int} (h : v ≤ 9) : s_dc v = v := by
  unfold s_dc
  rw [if_neg (by omega), if_neg (by omega)]
theorem s_dc_4 {v : Int} (h : v = 254) : s_dc v = -2 := by rw [h]; rfl
theorem s_dc_5 {v : Int} (h : v = 255) : s_dc v = -1 := by rw [h]; rfl
section FJ
variable {o oX oM g n p q k i N : Nat} {G A A' : aR} {K : Nat → List Int} {B : Nat → Int} {L : s_L} {U : s_U} {S S0 S1 SX SM T T1 : dg_S} {x x' r c v t m : Int} {a a1 a2 a3 a4 y : Int32}
/-- the tape's bytes, however many are told of -/
def mx_by (n : Nat) (B : Nat → Int) (S : dg_S) : Prop := n ≤ 1600 ∧ ∀ i, i < n → (S.2.1 1 i).toInt = B i ∧ 0 ≤ B i ∧ B i ≤ 255
theorem mx_by.keep (h : mx_by n B S) (e : S1.2.1 1 = S.2.1 1) : mx_by n B S1 := ⟨h.1, fun i hi => by rw [e]; exact h.2 i hi⟩
theorem mx_flagsOn (hp : a1.toInt = p) (hN : a2.toInt = N) (h6 : N ≤ 6) (tb : mx_by n B S) (hn : p + N ≤ n) : ((∀ j, j < N → B (p + j) ≤ 1) ∧ (0 ≤ (F_m_flagsOn o S a1 a2).toInt ∧ (F_m_flagsOn o S a1 a2).toInt < 64) ∧ ∀ k, k < 6 → mx_bit (F_m_flagsOn o S a1 a2).toInt k = if k < N then B (p + k) else 0) ∨ (¬ (∀ j, j < N → B (p + j) ≤ 1) ∧ F_m_flagsOn o S a1 a2 = -1) := by
  have z0 : (0 : Int32).toInt = 0 := by decide +kernel
  have z1 : (1 : Int32).toInt = 1 := by decide +kernel
  have shz : ∀ k : Nat, k < 6 → (0 : Int32) <<< (Int32.ofInt (k : Int) &&& 31) = 0 := by decide +kernel
  have orz : ∀ k : Nat, k < 64 → Int32.ofInt (k : Int) ||| 0 = Int32.ofInt (k : Int) := by decide +kernel
  obtain ⟨t1, t2⟩ := tb
  rw [F_m_flagsOn_p3]
  exact lp_cnt2 (f := F_m_flagsOn_B1 a2 a1 S) (z := (0 : Int32)) (W := N) (P := fun c s => (∀ j, j < c → B (p + j) ≤ 1) ∧ (0 ≤ s.toInt ∧ s.toInt < 64) ∧ ∀ k, k < 6 → mx_bit s.toInt k = if k < c then B (p + k) else 0) (Q := fun s => ((∀ j, j < N → B (p + j) ≤ 1) ∧ (0 ≤ s.toInt ∧ s.toInt < 64) ∧ ∀ k, k < 6 → mx_bit s.toInt k = if k < N then B (p + k) else 0) ∨ (¬ (∀ j, j < N → B (p + j) ≤ 1) ∧ s = -1)) (by omega) (fun c cI s hc hcI hP => by
    obtain ⟨p1, p2, p3⟩ := hP
    have q0 : ¬ a2 ≤ cI := fun z => by have := w_le.mp z; omega
    have e1 : (a1 + cI).toInt = ((p + c : Nat) : Int) := by rw [dk_addT hp hcI (by omega) (by omega)]; omega
    have e2 : (a1 + cI).toNatClampNeg = p + c := by rw [dk_clN, e1]; omega
    obtain ⟨b1, b2, b3⟩ := t2 (p + c) (by omega)
    by_cases q : S.2.1 1 (a1 + cI).toNatClampNeg ≤ (1 : Int32)
    · left
      have d := w_le.mp q
      rw [e2, b1, z1] at d
      refine ⟨_, F_m_flagsOn_p1 q0 rfl rfl q rfl rfl rfl rfl rfl, ?_⟩
      rw [e2]
      by_cases qb : B (p + c) = 0
      · have w0 : S.2.1 1 (p + c) = (0 : Int32) := dk_eqp z0 (by rw [b1]; exact qb)
        have ec : cI = Int32.ofInt (c : Int) := by rw [← hcI, Int32.ofInt_toInt]
        have es : s = Int32.ofInt ((s.toInt.toNat : Nat) : Int) := by rw [show ((s.toInt.toNat : Nat) : Int) = s.toInt by omega, Int32.ofInt_toInt]
        have ev : s ||| (S.2.1 1 (p + c) <<< (cI &&& 31)) = s := by
          rw [w0, ec, shz c (by omega)]
          have := orz s.toInt.toNat (by omega)
          rw [← es] at this
          exact this
        rw [ev]
        refine ⟨fun j hj => ?_, p2, fun k hk => ?_⟩
        · by_cases qj : j = c
          · subst qj
            exact d
          · exact p1 j (by omega)
        · rw [p3 k hk]
          by_cases qk : k = c
          · subst qk
            rw [if_neg (by omega), if_pos (by omega), qb]
          · by_cases qk2 : k < c
            · rw [if_pos qk2, if_pos (by omega)]
            · rw [if_neg qk2, if_neg (by omega)]
      · have w1 : S.2.1 1 (p + c) = (1 : Int32) := dk_eqp z1 (by rw [b1]; omega)
        have sb := mx_setbit (a := s) (b := cI) p2 (by omega)
        rw [w1]
        refine ⟨fun j hj => ?_, sb.1, fun k hk => ?_⟩
        · by_cases qj : j = c
          · subst qj
            exact d
          · exact p1 j (by omega)
        · rw [sb.2 k hk, hcI, show ((c : Int)).toNat = c by omega]
          by_cases qk : k = c
          · subst qk
            rw [if_pos rfl, if_pos (by omega)]
            omega
          · rw [if_neg qk, p3 k hk]
            by_cases qk2 : k < c
            · rw [if_pos qk2, if_pos (by omega)]
            · rw [if_neg qk2, if_neg (by omega)]
    · right
      refine ⟨_, F_m_flagsOn_p2 q0 rfl rfl q, Or.inr ⟨fun z => q (w_le.mpr ?_), rfl⟩⟩
      rw [e2, b1, z1]
      exact z c hc) (fun cI s hcI hP => ⟨s, F_m_flagsOn_p0 (w_le.mpr (by omega)), Or.inl hP⟩) ((7 - ((0 : Int32)).toInt).toNat + 1) 0 0 (0 : Int32) (by rw [z0]; omega) (by omega) z0 ⟨fun j hj => absurd hj (Nat.not_lt_zero _), by rw [z0]; decide, fun k hk => by rw [z0, mx_bit0 k hk, if_neg (Nat.not_lt_zero _)]⟩
/-- the cells of an image -/
def mx_ocs (G : aR) (B : Nat → Int) (c : Nat) (T : dg_S) : Prop := ∀ d : Nat, d < c → s_in G (d : Int) → (T.2.1 31 (64 + d)).toInt = mx_en (s_dc (B (5 + s_cp G d))) ∧ (T.2.1 32 (64 + d)).toInt = mx_cu (s_dc (B (5 + s_cp G d)))
theorem mx_cellsOn (hg : mx_gf G K S) (hG : s_gx G) (tb : mx_by n B S) (hn : 5 + s_cp G 64 ≤ n) (ha : a1.toInt = 5) : ∃ (T : dg_S) (y : Int32), F_m_cellsOn o S a1 = (T, y) ∧ (k_v 1 S T ∧ kp (fun _ _ => False) (fun a => a = 31 ∨ a = 32) S T) ∧ ((y = 1 ∧ (∀ d : Nat, d < 64 → s_in G (d : Int) → s_oc G B 5 d) ∧ mx_ocs G B 64 T) ∨ (y = 0 ∧ ¬ (∀ d : Nat, d < 64 → s_in G (d : Int) → s_oc G B 5 d))) := by
  have z0 : (0 : Int32).toInt = 0 := by decide +kernel
  have z1 : (1 : Int32).toInt = 1 := by decide +kernel
  have m1 : (-1 : Int32).toInt = -1 := by decide +kernel
  have z9 : (9 : Int32).toInt = 9 := by decide +kernel
  have z64 : (64 : Int32).toInt = 64 := by decide +kernel
  have z254 : (254 : Int32).toInt = 254 := by decide +kernel
  have z255 : (255 : Int32).toInt = 255 := by decide +kernel
  have hgb := hG.1
  obtain ⟨t1, t2⟩ := id tb
  have hc49 := (s_cp64 hgb).2
  rw [F_m_cellsOn_p13]
  have Q := lp_cnt2 (f := F_m_cellsOn_B1 o S) (z := (S, (0 : Int32))) (W := 64) (P := fun c s => s.1.toInt = ((5 + s_cp G c : Nat) : Int) ∧ (k_v 1 S s.2 ∧ kp (fun _ _ => False) (fun a => a = 31 ∨ a = 32) S s.2) ∧ (∀ d : Nat, d < c → s_in G (d : Int) → s_oc G B 5 d) ∧ mx_ocs G B c s.2) (Q := fun r => (k_v 1 S r.1 ∧ kp (fun _ _ => False) (fun a => a = 31 ∨ a = 32) S r.1) ∧ ((r.2 = 1 ∧ (∀ d : Nat, d < 64 → s_in G (d : Int) → s_oc G B 5 d) ∧ mx_ocs G B 64 r.1) ∨ (r.2 = 0 ∧ ¬ (∀ d : Nat, d < 64 → s_in G (d : Int) → s_oc G B 5 d)))) (by decide) (fun c cI s hc hcI hP => by
    obtain ⟨pI, T⟩ := s
    obtain ⟨p1, ⟨p2, p5⟩, p3, p4⟩ := hP
    have p1 : pI.toInt = ((5 + s_cp G c : Nat) : Int) := p1
    have p2 : k_v 1 S T := p2
    have p5 : kp (fun _ _ => False) (fun a => a = 31 ∨ a = 32) S T := p5
    have p4 : mx_ocs G B c T := p4
    have q0 : ¬ (64 : Int32) ≤ cI := fun z => by have := w_le.mp z; omega
    have gd : mx_gd G T := p2.gd hg.1.1
    rcases mx_isCellOf (o := o) (a := cI) gd hgb.1 with ⟨ic, hin⟩ | ⟨ic, hin⟩
    rotate_left
    · left
      rw [hcI] at hin
      exact ⟨(pI, T), F_m_cellsOn_p12 q0 rfl ic rfl, by show pI.toInt = _; rw [s_cp_n hin]; exact p1, ⟨p2, p5⟩, fun d hd hdi => p3 d (by
        by_cases z : d = c
        · subst z
          exact absurd hdi hin
        · omega) hdi, fun d hd hdi => p4 d (by
        by_cases z : d = c
        · subst z
          exact absurd hdi hin
        · omega) hdi⟩
    rw [hcI] at hin
    have nc : ¬ F_m_isCellOf o T cI = (0 : Int32) := by rw [ic]; decide
    have lt := s_cp_lt hin
    obtain ⟨b, hb⟩ : ∃ b : Int32, b = T.2.1 1 pI.toNatClampNeg := ⟨_, rfl⟩
    have pn : pI.toNatClampNeg = 5 + s_cp G c := by rw [dk_clN, p1]; omega
    obtain ⟨y1, y2, y3⟩ := t2 (5 + s_cp G c) (by omega)
    have bv : b.toInt = B (5 + s_cp G c) := by rw [hb, pn, p2.row (by decide)]; exact y1
    have e13 : zI T 0 13 = zI S 0 13 := p2.I
    have ex : (T.2.1 4 (zI S 0 13).toNatClampNeg).toInt = G 0 2 := by
      have := gd.2.2.2.1
      rw [e13] at this
      exact this
    have i64 : ((64 : Int32) + cI).toInt = ((64 + c : Nat) : Int) := by rw [dk_addT z64 hcI (by omega) (by omega)]; omega
    have n64 : ((64 : Int32) + cI).toNatClampNeg = 64 + c := by rw [dk_clN, i64]; omega
    have bad : ¬ s_oc G B 5 c → (k_v 1 S T ∧ kp (fun _ _ => False) (fun a => a = 31 ∨ a = 32) S T) ∧ (((0 : Int32) = 1 ∧ (∀ d : Nat, d < 64 → s_in G (d : Int) → s_oc G B 5 d) ∧ mx_ocs G B 64 T) ∨ ((0 : Int32) = 0 ∧ ¬ (∀ d : Nat, d < 64 → s_in G (d : Int) → s_oc G B 5 d))) := fun z => ⟨⟨p2, p5⟩, Or.inr ⟨rfl, fun w => z (w c hc hin)⟩⟩
    have wr : ∀ v1 v2 : Int32, s_oc G B 5 c → v1.toInt = mx_en (s_dc (B (5 + s_cp G c))) → v2.toInt = mx_cu (s_dc (B (5 + s_cp G c))) → F_m_cellsOn_J5 (dg_uf T 31 (upd (T.2.1 31) ((64 : Int32) + cI).toNatClampNeg v1)) ((64 : Int32) + cI) v2 pI cI = F_m_cellsOn_B1 o S (cI, pI, T) → ∃ s1, F_m_cellsOn_B1 o S (cI, pI, T) = .inl (cI + 1, s1) ∧ (s1.1.toInt = ((5 + s_cp G (c + 1) : Nat) : Int) ∧ (k_v 1 S s1.2 ∧ kp (fun _ _ => False) (fun a => a = 31 ∨ a = 32) S s1.2) ∧ (∀ d : Nat, d < c + 1 → s_in G (d : Int) → s_oc G B 5 d) ∧ mx_ocs G B (c + 1) s1.2) := fun v1 v2 hoc h1 h2 hF => by
      obtain ⟨T1, e1⟩ : ∃ X, X = dg_uf T 31 (upd (T.2.1 31) ((64 : Int32) + cI).toNatClampNeg v1) := ⟨_, rfl⟩
      obtain ⟨T2, e2⟩ : ∃ X, X = dg_uf T1 32 (upd (T1.2.1 32) ((64 : Int32) + cI).toNatClampNeg v2) := ⟨_, rfl⟩
      rw [← e1] at hF
      refine ⟨(pI + 1, T2), hF.symm.trans (F_m_cellsOn_p1 e2 rfl rfl), ?_, ?_, fun d hd hdi => ?_, fun d hd hdi => ?_⟩
      · show (pI + 1).toInt = _
        rw [dk_addT p1 z1 (by omega) (by omega), s_cp_y hin]
        omega
      · show k_v 1 S T2 ∧ kp (fun _ _ => False) (fun a => a = 31 ∨ a = 32) S T2
        rw [e2, e1, n64]
        refine ⟨?_, kp.uf (kp.uf p5 (Or.inl rfl)) (Or.inr rfl)⟩
        exact (p2.uf (by decide) (by decide) (by show 64 * 1 ≤ _ ∧ _ < 64 * 1 + 64; omega)).uf (by decide) (by decide) (by show 64 * 1 ≤ _ ∧ _ < 64 * 1 + 64; omega)
      · by_cases z : d = c
        · subst z
          exact hoc
        · exact p3 d (by omega) hdi
      · show (T2.2.1 31 (64 + d)).toInt = _ ∧ (T2.2.1 32 (64 + d)).toInt = _
        have r31 : T2.2.1 31 = upd (T.2.1 31) (64 + c) v1 := by rw [e2, w_f, if_neg (by decide), e1, w_f, if_pos rfl, n64]
        have r32 : T2.2.1 32 = upd (T.2.1 32) (64 + c) v2 := by rw [e2, w_f, if_pos rfl, n64, e1, w_f, if_neg (by decide)]
        rw [r31, r32, w_u, w_u]
        by_cases z : d = c
        · subst z
          rw [if_pos rfl, if_pos rfl]
          exact ⟨h1, h2⟩
        · rw [if_neg (by omega), if_neg (by omega)]
          exact p4 d (by omega) hdi
    by_cases q9 : b ≤ (9 : Int32)
    · have d9 := w_le.mp q9
      rw [bv, z9] at d9
      have n254 : ¬ b = (254 : Int32) := fun z => by have := dk_eqc z254 z; omega
      have v1 : b.toInt = mx_en (s_dc (B (5 + s_cp G c))) := by
        rw [bv, s_dc_9 d9]
        unfold mx_en
        rw [if_neg (by omega)]
      have v2 : (0 : Int32).toInt = mx_cu (s_dc (B (5 + s_cp G c))) := by
        rw [z0, s_dc_9 d9]
        unfold mx_cu
        rw [if_neg (by omega)]
      have st := F_m_cellsOn_p9 (S := S) q0 rfl nc hb q9
      by_cases qe : cI = T.2.1 4 (zI S 0 13).toNatClampNeg
      · right
        refine ⟨_, st.trans (F_m_cellsOn_p8 rfl rfl qe (fun z => by have := dk_eqc z255 z; omega)), bad (fun w => ?_)⟩
        have := w_eq.mp qe
        have := w.2 (by omega)
        omega
      · left
        refine wr b 0 ⟨Or.inl d9, fun w => absurd (Int32.toInt_inj.mp (by rw [hcI, ex]; exact w)) qe⟩ v1 v2 ?_
        rw [st, F_m_cellsOn_p6 rfl rfl qe, F_m_cellsOn_p4 rfl q9, F_m_cellsOn_p2 rfl rfl n254]
    have d9 : ¬ b.toInt ≤ (9 : Int32).toInt := fun z => q9 (w_le.mpr z)
    rw [bv, z9] at d9
    by_cases q254 : b < (254 : Int32)
    · right
      have d4 := w_lt.mp q254
      rw [bv, z254] at d4
      exact ⟨_, F_m_cellsOn_p10 q0 rfl nc hb q9 q254, bad (fun w => by have := w.1; omega)⟩
    have d4 : ¬ b.toInt < (254 : Int32).toInt := fun z => q254 (w_lt.mpr z)
    rw [bv, z254] at d4
    have st := F_m_cellsOn_p11 (S := S) q0 rfl nc hb q9 q254
    have v1 : (-1 : Int32).toInt = mx_en (s_dc (B (5 + s_cp G c))) := by
      rw [m1]
      by_cases w : B (5 + s_cp G c) = 255
      · rw [s_dc_5 w]
        rfl
      · rw [s_dc_4 (show B (5 + s_cp G c) = 254 by omega)]
        rfl
    have J3 : F_m_cellsOn_J2 S T cI b pI = F_m_cellsOn_J3 cI b T pI → s_oc G B 5 c → ∃ s1, F_m_cellsOn_B1 o S (cI, pI, T) = .inl (cI + 1, s1) ∧ (s1.1.toInt = ((5 + s_cp G (c + 1) : Nat) : Int) ∧ (k_v 1 S s1.2 ∧ kp (fun _ _ => False) (fun a => a = 31 ∨ a = 32) S s1.2) ∧ (∀ d : Nat, d < c + 1 → s_in G (d : Int) → s_oc G B 5 d) ∧ mx_ocs G B (c + 1) s1.2) := fun hJ hoc => by
      by_cases q5 : b = (254 : Int32)
      · have d5 := dk_eqc z254 q5
        refine wr (-1) 1 hoc v1 ?_ ?_
        · rw [z1, s_dc_4 (show B (5 + s_cp G c) = 254 by omega)]
          rfl
        · rw [st, hJ, F_m_cellsOn_p5 rfl q9, F_m_cellsOn_p3 rfl rfl q5]
      · have d5 := dk_neqc z254 q5
        refine wr (-1) 0 hoc v1 ?_ ?_
        · rw [z0, s_dc_5 (show B (5 + s_cp G c) = 255 by omega)]
          rfl
        · rw [st, hJ, F_m_cellsOn_p5 rfl q9, F_m_cellsOn_p2 rfl rfl q5]
    by_cases qe : cI = T.2.1 4 (zI S 0 13).toNatClampNeg
    · have de := w_eq.mp qe
      by_cases q5 : b = (255 : Int32)
      · left
        have d5 := dk_eqc z255 q5
        exact J3 (F_m_cellsOn_p7 rfl rfl qe q5) ⟨Or.inr (by omega), fun _ => by omega⟩
      · right
        have d5 := dk_neqc z255 q5
        exact ⟨_, st.trans (F_m_cellsOn_p8 rfl rfl qe q5), bad (fun w => by have := w.2 (by omega); omega)⟩
    · left
      exact J3 (F_m_cellsOn_p6 rfl rfl qe) ⟨Or.inr (by omega), fun w => absurd (Int32.toInt_inj.mp (by rw [hcI, ex]; exact w)) qe⟩) (fun cI s hcI hP => by
    obtain ⟨pI, T⟩ := s
    exact ⟨(T, 1), F_m_cellsOn_p0 (w_le.mpr (by omega)), hP.2.1, Or.inl ⟨rfl, hP.2.2.1, hP.2.2.2⟩⟩) ((65 - ((0 : Int32)).toInt).toNat + 1) 0 0 (a1, S) (by rw [z0]; decide) (by decide) z0 ⟨ha, ⟨k_v.rf, kp.rf⟩, fun d hd => absurd hd (Nat.not_lt_zero _), fun d hd => absurd hd (Nat.not_lt_zero _)⟩
  exact ⟨_, _, rfl, Q⟩
end FJ
end
section
/-! ON: the reference reads plan, tubs, all -/
section FK
variable {o oX oM g n p q k i N : Nat} {G A A' : aR} {K : Nat → List Int} {B : Nat → Int} {L : s_L} {U : s_U} {S S0 S1 SX SM T T1 : dg_S} {x x' r c v t m : Int} {a a1 a2 a3 a4 y : Int32}
theorem mx_plansOn (hg : mx_gf G K S) (hG : s_gx G) (tb : mx_by n B S) (hn : p + 3 * (G 0 6).toNat ≤ n) (ha : a1.toInt = p) : ∃ (T : dg_S) (y : Int32), F_m_plansOn o S a1 = (T, y) ∧ (k_v 1 S T ∧ kp (fun _ _ => False) (fun a => a = 35 ∨ a = 36) S T) ∧ ((y = 1 ∧ (∀ k : Nat, (k : Int) < G 0 6 → B (p + 3 * k) < G 0 5 ∧ B (p + 3 * k + 1) < G 0 0 ∧ B (p + 3 * k + 2) < G 0 1) ∧ ∀ k : Nat, (k : Int) < G 0 6 → (T.2.1 35 (16 + k)).toInt = B (p + 3 * k) ∧ (T.2.1 36 (16 + k)).toInt = 8 * B (p + 3 * k + 2) + B (p + 3 * k + 1)) ∨ (y = 0 ∧ ¬ (∀ k : Nat, (k : Int) < G 0 6 → B (p + 3 * k) < G 0 5 ∧ B (p + 3 * k + 1) < G 0 0 ∧ B (p + 3 * k + 2) < G 0 1))) := by
  have z0 : (0 : Int32).toInt = 0 := by decide +kernel
  have z1 : (1 : Int32).toInt = 1 := by decide +kernel
  have z2 : (2 : Int32).toInt = 2 := by decide +kernel
  have z3 : (3 : Int32).toInt = 3 := by decide +kernel
  have z8 : (8 : Int32).toInt = 8 := by decide +kernel
  have z16 : (16 : Int32).toInt = 16 := by decide +kernel
  have hgb := hG.1
  have hb0 := hgb.2.2
  have hw := hgb.1
  obtain ⟨t1, t2⟩ := id tb
  rw [F_m_plansOn_p4]
  have Q := lp_cnt2 (f := F_m_plansOn_B1 S a1 o) (z := (S, (0 : Int32))) (W := (G 0 6).toNat) (P := fun c T => (k_v 1 S T ∧ kp (fun _ _ => False) (fun a => a = 35 ∨ a = 36) S T) ∧ (∀ k : Nat, k < c → B (p + 3 * k) < G 0 5 ∧ B (p + 3 * k + 1) < G 0 0 ∧ B (p + 3 * k + 2) < G 0 1) ∧ ∀ k : Nat, k < c → (T.2.1 35 (16 + k)).toInt = B (p + 3 * k) ∧ (T.2.1 36 (16 + k)).toInt = 8 * B (p + 3 * k + 2) + B (p + 3 * k + 1)) (Q := fun r => (k_v 1 S r.1 ∧ kp (fun _ _ => False) (fun a => a = 35 ∨ a = 36) S r.1) ∧ ((r.2 = 1 ∧ (∀ k : Nat, (k : Int) < G 0 6 → B (p + 3 * k) < G 0 5 ∧ B (p + 3 * k + 1) < G 0 0 ∧ B (p + 3 * k + 2) < G 0 1) ∧ ∀ k : Nat, (k : Int) < G 0 6 → (r.1.2.1 35 (16 + k)).toInt = B (p + 3 * k) ∧ (r.1.2.1 36 (16 + k)).toInt = 8 * B (p + 3 * k + 2) + B (p + 3 * k + 1)) ∨ (r.2 = 0 ∧ ¬ (∀ k : Nat, (k : Int) < G 0 6 → B (p + 3 * k) < G 0 5 ∧ B (p + 3 * k + 1) < G 0 0 ∧ B (p + 3 * k + 2) < G 0 1)))) (by omega) (fun c cI T hc hcI hP => by
    obtain ⟨⟨p2, p5⟩, p3, p4⟩ := hP
    have gf : mx_gf G K T := hg.keep p2.I p2.I (fun i hi => p2.row (by omega))
    have gd : mx_gd G T := gf.1.1
    have e13 : zI T 0 13 = zI S 0 13 := p2.I
    have e9 : (T.2.1 9 (zI S 0 13).toNatClampNeg).toInt = G 0 6 := by
      have := gd.2.2.2.2
      rw [e13] at this
      exact this
    have q0 : ¬ T.2.1 9 (zI S 0 13).toNatClampNeg ≤ cI := fun z => by have := w_le.mp z; omega
    have rt : T.2.1 1 = S.2.1 1 := p2.row (by decide)
    have i3 : ((3 : Int32) * cI).toInt = 3 * (c : Int) := dk_mulT z3 hcI (by omega) (by omega)
    have ia : (a1 + (3 : Int32) * cI).toInt = ((p + 3 * c : Nat) : Int) := by rw [dk_addT ha i3 (by omega) (by omega)]; omega
    have na : (a1 + (3 : Int32) * cI).toNatClampNeg = p + 3 * c := by rw [dk_clN, ia]; omega
    have ib : (a1 + (3 : Int32) * cI + (1 : Int32)).toInt = ((p + 3 * c + 1 : Nat) : Int) := by rw [dk_addT ia z1 (by omega) (by omega)]; omega
    have nb : (a1 + (3 : Int32) * cI + (1 : Int32)).toNatClampNeg = p + 3 * c + 1 := by rw [dk_clN, ib]; omega
    have ic : (a1 + (3 : Int32) * cI + (2 : Int32)).toInt = ((p + 3 * c + 2 : Nat) : Int) := by rw [dk_addT ia z2 (by omega) (by omega)]; omega
    have nc : (a1 + (3 : Int32) * cI + (2 : Int32)).toNatClampNeg = p + 3 * c + 2 := by rw [dk_clN, ic]; omega
    obtain ⟨ba, b0, b9⟩ := t2 (p + 3 * c) (by omega)
    obtain ⟨bb, c0, c9⟩ := t2 (p + 3 * c + 1) (by omega)
    obtain ⟨bc, d0, d9⟩ := t2 (p + 3 * c + 2) (by omega)
    have bad : ¬ (B (p + 3 * c) < G 0 5 ∧ B (p + 3 * c + 1) < G 0 0 ∧ B (p + 3 * c + 2) < G 0 1) → (k_v 1 S T ∧ kp (fun _ _ => False) (fun a => a = 35 ∨ a = 36) S T) ∧ (((0 : Int32) = 1 ∧ (∀ k : Nat, (k : Int) < G 0 6 → B (p + 3 * k) < G 0 5 ∧ B (p + 3 * k + 1) < G 0 0 ∧ B (p + 3 * k + 2) < G 0 1) ∧ ∀ k : Nat, (k : Int) < G 0 6 → (T.2.1 35 (16 + k)).toInt = B (p + 3 * k) ∧ (T.2.1 36 (16 + k)).toInt = 8 * B (p + 3 * k + 2) + B (p + 3 * k + 1)) ∨ ((0 : Int32) = 0 ∧ ¬ (∀ k : Nat, (k : Int) < G 0 6 → B (p + 3 * k) < G 0 5 ∧ B (p + 3 * k + 1) < G 0 0 ∧ B (p + 3 * k + 2) < G 0 1))) := fun z => ⟨⟨p2, p5⟩, Or.inr ⟨rfl, fun w => z (w c (by omega))⟩⟩
    rcases mx_miner (o := o) (a1 := T.2.1 1 (a1 + (3 : Int32) * cI).toNatClampNeg) gf with ⟨im, hm⟩ | ⟨im, hm⟩
    rotate_left
    · right
      rw [na, rt, ba] at hm
      exact ⟨_, F_m_plansOn_p1 rfl rfl q0 rfl rfl rfl rfl im, bad (fun w => hm ⟨b0, w.1⟩)⟩
    have nm : ¬ F_m_isMiner o T (T.2.1 1 (a1 + (3 : Int32) * cI).toNatClampNeg) = (0 : Int32) := by rw [im]; decide
    rw [na, rt, ba] at hm
    rcases mx_isCell (o := o) (a := T.2.1 1 (a1 + (3 : Int32) * cI + (1 : Int32)).toNatClampNeg) (b := T.2.1 1 (a1 + (3 : Int32) * cI + (2 : Int32)).toNatClampNeg) gd hgb.1 with ⟨is, hs⟩ | ⟨is, hs⟩
    rotate_left
    · right
      rw [nb, nc, rt, bb, bc] at hs
      exact ⟨_, F_m_plansOn_p3 rfl rfl q0 rfl rfl rfl rfl nm rfl rfl rfl rfl rfl is, bad (fun w => hs ⟨⟨c0, w.2.1⟩, d0, w.2.2⟩)⟩
    have ns : ¬ F_m_isCell o T (T.2.1 1 (a1 + (3 : Int32) * cI + (1 : Int32)).toNatClampNeg) (T.2.1 1 (a1 + (3 : Int32) * cI + (2 : Int32)).toNatClampNeg) = (0 : Int32) := by rw [is]; decide
    rw [nb, nc, rt, bb, bc] at hs
    left
    have i16 : ((16 : Int32) + cI).toInt = ((16 + c : Nat) : Int) := by rw [dk_addT z16 hcI (by omega) (by omega)]; omega
    have n16 : ((16 : Int32) + cI).toNatClampNeg = 16 + c := by rw [dk_clN, i16]; omega
    obtain ⟨T1, e1⟩ : ∃ X, X = dg_uf T 35 (upd (T.2.1 35) ((16 : Int32) + cI).toNatClampNeg (T.2.1 1 (a1 + (3 : Int32) * cI).toNatClampNeg)) := ⟨_, rfl⟩
    have r1 : T1.2.1 1 = S.2.1 1 := by rw [e1, w_f, if_neg (by decide)]; exact rt
    obtain ⟨w, hw2⟩ : ∃ w : Int32, w = (8 : Int32) * T1.2.1 1 (a1 + (3 : Int32) * cI + (2 : Int32)).toNatClampNeg + T1.2.1 1 (a1 + (3 : Int32) * cI + (1 : Int32)).toNatClampNeg := ⟨_, rfl⟩
    have wv : w.toInt = 8 * B (p + 3 * c + 2) + B (p + 3 * c + 1) := by
      have e8 : ((8 : Int32) * T1.2.1 1 (a1 + (3 : Int32) * cI + (2 : Int32)).toNatClampNeg).toInt = 8 * B (p + 3 * c + 2) := by
        rw [nc, r1]
        exact dk_mulT z8 bc (by omega) (by omega)
      rw [hw2]
      refine dk_addT e8 ?_ (by omega) (by omega)
      rw [nb, r1]
      exact bb
    obtain ⟨T2, e2⟩ : ∃ X, X = dg_uf T1 36 (upd (T1.2.1 36) ((16 : Int32) + cI).toNatClampNeg w) := ⟨_, rfl⟩
    refine ⟨T2, F_m_plansOn_p2 rfl rfl q0 rfl rfl rfl rfl nm rfl rfl rfl rfl rfl ns rfl e1 rfl rfl rfl rfl rfl rfl hw2 e2 rfl, ⟨?_, ?_⟩, fun k hk => ?_, fun k hk => ?_⟩
    · rw [e2, e1, n16]
      exact (p2.uf (by decide) (by decide) (by show 16 * 1 ≤ _ ∧ _ < 16 * 1 + 16; omega)).uf (by decide) (by decide) (by show 16 * 1 ≤ _ ∧ _ < 16 * 1 + 16; omega)
    · rw [e2, e1]
      exact kp.uf (kp.uf p5 (Or.inl rfl)) (Or.inr rfl)
    · by_cases z : k = c
      · subst z
        exact ⟨hm.2, hs.1.2, hs.2.2⟩
      · exact p3 k (by omega)
    · have r35 : T2.2.1 35 = upd (T.2.1 35) (16 + c) (S.2.1 1 (p + 3 * c)) := by rw [e2, w_f, if_neg (by decide), e1, w_f, if_pos rfl, n16, na, rt]
      have r36 : T2.2.1 36 = upd (T.2.1 36) (16 + c) w := by rw [e2, w_f, if_pos rfl, n16, e1, w_f, if_neg (by decide)]
      rw [r35, r36, w_u, w_u]
      by_cases z : k = c
      · subst z
        rw [if_pos rfl, if_pos rfl]
        exact ⟨ba, wv⟩
      · rw [if_neg (by omega), if_neg (by omega)]
        exact p4 k (by omega)) (fun cI T hcI hP => by
    obtain ⟨⟨p2, p5⟩, p3, p4⟩ := hP
    have gd : mx_gd G T := p2.gd hg.1.1
    have e13 : zI T 0 13 = zI S 0 13 := p2.I
    have e9 : (T.2.1 9 (zI S 0 13).toNatClampNeg).toInt = G 0 6 := by
      have := gd.2.2.2.2
      rw [e13] at this
      exact this
    exact ⟨(T, 1), F_m_plansOn_p0 rfl rfl (w_le.mpr (by omega)), ⟨p2, p5⟩, Or.inl ⟨rfl, fun k hk => p3 k (by omega), fun k hk => p4 k (by omega)⟩⟩) ((17 - ((0 : Int32)).toInt).toNat + 1) 0 0 S (by rw [z0]; omega) (by omega) z0 ⟨⟨k_v.rf, kp.rf⟩, fun d hd => absurd hd (Nat.not_lt_zero _), fun d hd => absurd hd (Nat.not_lt_zero _)⟩
  exact ⟨_, _, rfl, Q⟩
theorem mx_tubsOn {z : dg_S × Int32} (hp : a3.toInt = p) (tb : mx_by n B S) (hn : p + 10 ≤ n) : ∃ T, (k_v 1 S T ∧ kp (fun _ _ => False) (fun a => a = 37) S T) ∧ (((∀ k, k < 10 → B (p + k) ≤ 99) ∧ (∀ k, k < 10 → (T.2.1 37 (10 + k)).toInt = B (p + k)) ∧ lp (F_m_comesOn_B4 a1 a2 o a4 a3) z ((11 - ((0 : Int32)).toInt).toNat + 1) ((0 : Int32), S) = F_m_comesOn_J3 a1 T a2 o a4) ∨ (¬ (∀ k, k < 10 → B (p + k) ≤ 99) ∧ lp (F_m_comesOn_B4 a1 a2 o a4 a3) z ((11 - ((0 : Int32)).toInt).toNat + 1) ((0 : Int32), S) = (T, 0))) := by
  have z0 : (0 : Int32).toInt = 0 := by decide +kernel
  have z10 : (10 : Int32).toInt = 10 := by decide +kernel
  have z99 : (99 : Int32).toInt = 99 := by decide +kernel
  obtain ⟨t1, t2⟩ := id tb
  exact lp_cnt2 (f := F_m_comesOn_B4 a1 a2 o a4 a3) (z := z) (W := 10) (P := fun c T => (k_v 1 S T ∧ kp (fun _ _ => False) (fun a => a = 37) S T) ∧ ∀ k, k < c → B (p + k) ≤ 99 ∧ (T.2.1 37 (10 + k)).toInt = B (p + k)) (Q := fun r => ∃ T, (k_v 1 S T ∧ kp (fun _ _ => False) (fun a => a = 37) S T) ∧ (((∀ k, k < 10 → B (p + k) ≤ 99) ∧ (∀ k, k < 10 → (T.2.1 37 (10 + k)).toInt = B (p + k)) ∧ r = F_m_comesOn_J3 a1 T a2 o a4) ∨ (¬ (∀ k, k < 10 → B (p + k) ≤ 99) ∧ r = (T, 0)))) (by decide) (fun c cI T hc hcI hP => by
    obtain ⟨⟨p2, p5⟩, p4⟩ := hP
    have q0 : ¬ (10 : Int32) ≤ cI := fun z => by have := w_le.mp z; omega
    have rt : T.2.1 1 = S.2.1 1 := p2.row (by decide)
    have i10 : ((10 : Int32) + cI).toInt = ((10 + c : Nat) : Int) := by rw [dk_addT z10 hcI (by omega) (by omega)]; omega
    have n10 : ((10 : Int32) + cI).toNatClampNeg = 10 + c := by rw [dk_clN, i10]; omega
    have ia : (a3 + cI).toInt = ((p + c : Nat) : Int) := by rw [dk_addT hp hcI (by omega) (by omega)]; omega
    have na : (a3 + cI).toNatClampNeg = p + c := by rw [dk_clN, ia]; omega
    obtain ⟨b1, b2, b3⟩ := t2 (p + c) (by omega)
    obtain ⟨T1, e1⟩ : ∃ X, X = dg_uf T 37 (upd (T.2.1 37) ((10 : Int32) + cI).toNatClampNeg (T.2.1 1 (a3 + cI).toNatClampNeg)) := ⟨_, rfl⟩
    have r1 : T1.2.1 1 = S.2.1 1 := by rw [e1, w_f, if_neg (by decide)]; exact rt
    have k1 : k_v 1 S T1 := by
      rw [e1, n10]
      exact p2.uf (by decide) (by decide) (by show 10 * 1 ≤ _ ∧ _ < 10 * 1 + 10; omega)
    have k5 : kp (fun _ _ => False) (fun a => a = 37) S T1 := by
      rw [e1]
      exact kp.uf p5 rfl
    by_cases q : T1.2.1 1 (a3 + cI).toNatClampNeg ≤ (99 : Int32)
    · left
      have d := w_le.mp q
      rw [na, r1, b1, z99] at d
      refine ⟨T1, F_m_comesOn_p9 q0 rfl rfl rfl e1 rfl rfl q rfl, ⟨k1, k5⟩, fun k hk => ?_⟩
      have r37 : T1.2.1 37 = upd (T.2.1 37) (10 + c) (S.2.1 1 (p + c)) := by rw [e1, w_f, if_pos rfl, n10, na, rt]
      rw [r37, w_u]
      by_cases z : k = c
      · subst z
        rw [if_pos rfl]
        exact ⟨d, b1⟩
      · rw [if_neg (by omega)]
        exact p4 k (by omega)
    · right
      refine ⟨_, F_m_comesOn_p10 q0 rfl rfl rfl e1 rfl rfl q, T1, ⟨k1, k5⟩, Or.inr ⟨fun w => q (w_le.mpr ?_), rfl⟩⟩
      rw [na, r1, b1, z99]
      exact w c hc) (fun cI T hcI hP => ⟨_, F_m_comesOn_p8 (w_le.mpr (by omega)), T, hP.1, Or.inl ⟨fun k hk => (hP.2 k hk).1, fun k hk => (hP.2 k hk).2, rfl⟩⟩) ((11 - ((0 : Int32)).toInt).toNat + 1) 0 0 S (by rw [z0]; decide) (by decide) z0 ⟨⟨k_v.rf, kp.rf⟩, fun d hd => absurd hd (Nat.not_lt_zero _)⟩
end FK
end
section
/-! ON: the reference, whole; both sides -/
section FL
variable {o oX oM g n p q k i N : Nat} {G A A' : aR} {K : Nat → List Int} {B : Nat → Int} {L : s_L} {U : s_U} {S S0 S1 SX SM T T1 : dg_S} {x x' r c v t m : Int} {a a1 a2 a3 a4 y : Int32}
set_option maxHeartbeats 4000000 in
theorem mx_onJ1 {x44 x47 x28 x8 x10 x15 x17 x11 x18 w : Int32} (ok : s_ok G K A U) (h : RM G K A L U x S) (tb : mx_by n B S) (ha : a1.toInt = n) (en : n = s_Ee G + 1) (v8 : x8.toInt = ((s_H G : Nat) : Int)) (v11 : x11.toInt = ((s_Pp G : Nat) : Int)) (v15 : x15.toInt = ((s_Oo G : Nat) : Int)) (v18 : x18.toInt = ((s_Tt G : Nat) : Int)) (f8 : x10.toInt = G 0 5) (f12 : x17.toInt = G 0 7) (v48 : (x44 <<< ((8 : Int32) &&& 31) ||| x47).toInt = 256 * B 0 + B 1) (v28 : x28.toInt = 65536 * B 2 + 256 * B 3 + B 4) (d9 : 256 * B 0 + B 1 ≤ 999) (d99 : 65536 * B 2 + 256 * B 3 + B 4 ≤ 99999) (hw : w.toInt = s_cb B (s_Ee G)) : ∃ (T : dg_S) (y : Int32), F_m_comesOn_J1 a1 S w o x44 x47 x28 x8 x10 x15 x17 x11 x18 = (T, y) ∧ k_v 1 S T ∧ ((y = 1 ∧ s_OV G B n ∧ mx_lay G (s_oA G B) [] T 1) ∨ (y = 0 ∧ ¬ s_OV G B n)) := by
  have z0 : (0 : Int32).toInt = 0 := by decide +kernel
  have z1 : (1 : Int32).toInt = 1 := by decide +kernel
  have z5 : (5 : Int32).toInt = 5 := by decide +kernel
  have n1 : (1 : Int32).toNatClampNeg = 1 := by decide +kernel
  have hG := ok.1
  have hb := hG.1.2.2.2
  have h5 := hG.2.2.2.1
  have h6 := hG.1.2.2
  have h7 := hG.2.2.2.2.1
  have c2 := (s_cp64 hG.1).2
  have eH : s_H G = 5 + s_cp G 64 := rfl
  have eP : s_Pp G = s_H G + (G 0 5).toNat := rfl
  have eO : s_Oo G = s_Pp G + 3 * (G 0 6).toNat := rfl
  have eT : s_Tt G = s_Oo G + (G 0 7).toNat := rfl
  have eE : s_Ee G = s_Tt G + 10 := rfl
  obtain ⟨t1, t2⟩ := id tb
  obtain ⟨x48, hx48⟩ : ∃ u : Int32, u = x44 <<< ((8 : Int32) &&& 31) ||| x47 := ⟨_, rfl⟩
  rw [← hx48] at v48
  have w615 : (a1 - (1 : Int32)).toInt = ((s_Ee G : Nat) : Int) := by rw [dk_subT ha z1 (by omega) (by omega)]; omega
  have n615 : (a1 - (1 : Int32)).toNatClampNeg = s_Ee G := by rw [dk_clN, w615]; omega
  have bE := (t2 (s_Ee G) (by omega)).1
  by_cases qs : S.2.1 1 (a1 - (1 : Int32)).toNatClampNeg = w
  rotate_left
  · exact ⟨S, 0, F_m_comesOn_p13 rfl rfl qs, k_v.rf, Or.inr ⟨rfl, fun V => qs (Int32.toInt_inj.mp (by rw [n615, bE, hw]; exact V.2.2.2.2.2.2.1))⟩⟩
  have ds := w_eq.mp qs
  rw [n615, bE, hw] at ds
  obtain ⟨T2, e2, -, -, k2⟩ := mx_try1 (o := o) ok h
  obtain ⟨T5, e5⟩ : ∃ X, X = dg_uf T2 29 (upd (T2.2.1 29) (1 : Int32).toNatClampNeg x48) := ⟨_, rfl⟩
  obtain ⟨T8, e8⟩ : ∃ X, X = dg_uf T5 30 (upd (T5.2.1 30) (1 : Int32).toNatClampNeg x28) := ⟨_, rfl⟩
  have k8 : k_v 1 S T8 := by
    rw [e8, e5, n1]
    exact (k2.uf (by decide) (by decide) (by show 1 * 1 ≤ _ ∧ _ < 1 * 1 + 1; omega)).uf (by decide) (by decide) (by show 1 * 1 ≤ _ ∧ _ < 1 * 1 + 1; omega)
  obtain ⟨f1, hf1⟩ : ∃ u : Int32, u = F_m_flagsOn o T8 x8 x10 := ⟨_, rfl⟩
  have F1 := mx_flagsOn (o := o) (S := T8) (N := (G 0 5).toNat) v8 (show x10.toInt = _ by rw [f8]; omega) (by omega) (tb.keep (k8.row (by decide))) (by omega)
  rw [← hf1] at F1
  obtain ⟨T15, e15⟩ : ∃ X, X = dg_uf T8 33 (upd (T8.2.1 33) (1 : Int32).toNatClampNeg f1) := ⟨_, rfl⟩
  have k15 : k_v 1 S T15 := by
    rw [e15, n1]
    exact k8.uf (by decide) (by decide) (by show 1 * 1 ≤ _ ∧ _ < 1 * 1 + 1; omega)
  obtain ⟨f2, hf2⟩ : ∃ u : Int32, u = F_m_flagsOn o T15 x15 x17 := ⟨_, rfl⟩
  have F2 := mx_flagsOn (o := o) (S := T15) (N := (G 0 7).toNat) v15 (show x17.toInt = _ by rw [f12]; omega) (by omega) (tb.keep (k15.row (by decide))) (by omega)
  rw [← hf2] at F2
  obtain ⟨T22, e22⟩ : ∃ X, X = dg_uf T15 34 (upd (T15.2.1 34) (1 : Int32).toNatClampNeg f2) := ⟨_, rfl⟩
  obtain ⟨T25, e25⟩ : ∃ X, X = dg_uf T22 38 (upd (T22.2.1 38) (1 : Int32).toNatClampNeg (0 : Int32)) := ⟨_, rfl⟩
  have k25 : k_v 1 S T25 := by
    rw [e25, e22, n1]
    exact (k15.uf (by decide) (by decide) (by show 1 * 1 ≤ _ ∧ _ < 1 * 1 + 1; omega)).uf (by decide) (by decide) (by show 1 * 1 ≤ _ ∧ _ < 1 * 1 + 1; omega)
  rw [F_m_comesOn_p12 rfl rfl qs e2.symm rfl hx48 e5 e8 hf1 e15, F_m_comesOn_p11 hf2 e22 e25]
  obtain ⟨T37, ⟨k37, r37⟩, D⟩ := mx_tubsOn (o := o) (a1 := f1) (a2 := f2) (a4 := x11) (z := (S, (0 : Int32))) v18 (tb.keep (k25.row (by decide))) (by omega)
  have k37 := k25.tr k37
  rcases D with ⟨tu, tv, eD⟩ | ⟨tu, eD⟩
  rotate_left
  · exact ⟨T37, 0, eD, k37, Or.inr ⟨rfl, fun V => tu (fun k hk => V.2.2.2.2.2.1 k hk)⟩⟩
  rw [eD]
  rcases F1 with ⟨u1, u2, u3⟩ | ⟨u1, u2⟩
  rotate_left
  · exact ⟨T37, 0, F_m_comesOn_p3 u2, k37, Or.inr ⟨rfl, fun V => u1 V.2.2.1⟩⟩
  have nf1 : ¬ f1 = (-1 : Int32) := fun z => by
    have e : (-1 : Int32).toInt = -1 := by decide +kernel
    have := dk_eqc e z
    omega
  rcases F2 with ⟨w1, w2, w3⟩ | ⟨w1, w2⟩
  rotate_left
  · exact ⟨T37, 0, F_m_comesOn_p4 nf1 w2, k37, Or.inr ⟨rfl, fun V => w1 V.2.2.2.2.1⟩⟩
  have nf2 : ¬ f2 = (-1 : Int32) := fun z => by
    have e : (-1 : Int32).toInt = -1 := by decide +kernel
    have := dk_eqc e z
    omega
  have gk : ∀ T, k_v 1 S T → mx_gf G K T := fun T t => h.1.keep t.I t.I (fun i hi => t.row (by omega))
  obtain ⟨Tc, yc, ec, ⟨kc, rc⟩, Dc⟩ := mx_cellsOn (o := o) (a1 := 5) (gk T37 k37) hG (tb.keep (k37.row (by decide))) (by omega) z5
  have kc := k37.tr kc
  rcases Dc with ⟨yc1, oc, ov⟩ | ⟨yc0, oc⟩
  rotate_left
  · exact ⟨Tc, 0, F_m_comesOn_p5 nf1 nf2 (show Tc = _ by rw [ec]) (show yc = _ by rw [ec]) yc0, kc, Or.inr ⟨rfl, fun V => oc V.2.1⟩⟩
  have nyc : ¬ yc = (0 : Int32) := by rw [yc1]; decide
  obtain ⟨Tp, yp, ep, ⟨kq, rp⟩, Dp⟩ := mx_plansOn (o := o) (a1 := x11) (gk Tc kc) hG (tb.keep (kc.row (by decide))) (by omega) v11
  have kq := kc.tr kq
  rcases Dp with ⟨yp1, pc, pv⟩ | ⟨yp0, pc⟩
  rotate_left
  · exact ⟨Tp, 0, F_m_comesOn_p6 nf1 nf2 (show Tc = _ by rw [ec]) (show yc = _ by rw [ec]) nyc (show Tp = _ by rw [ep]) (show yp = _ by rw [ep]) yp0, kq, Or.inr ⟨rfl, fun V => pc V.2.2.2.1⟩⟩
  have nyp : ¬ yp = (0 : Int32) := by rw [yp1]; decide
  refine ⟨Tp, 1, F_m_comesOn_p7 nf1 nf2 (show Tc = _ by rw [ec]) (show yc = _ by rw [ec]) nyc (show Tp = _ by rw [ep]) (show yp = _ by rw [ep]) nyp, kq, Or.inl ⟨rfl, ⟨en, oc, u1, pc, w1, tu, ds, by omega, by omega⟩, ?_⟩⟩
  have row : ∀ a, a ≠ 31 → a ≠ 32 → a ≠ 35 → a ≠ 36 → a ≠ 37 → Tp.2.1 a = T25.2.1 a := fun a h1 h2 h3 h4 h5 => by rw [(rp.2 a (by omega)).1, (rc.2 a (by omega)).1, (r37.2 a h5).1]
  have r29 : Tp.2.1 29 1 = x48 := by
    rw [row 29 (by decide) (by decide) (by decide) (by decide) (by decide), e25, w_f, if_neg (by decide), e22, w_f, if_neg (by decide), e15, w_f, if_neg (by decide), e8, w_f, if_neg (by decide), e5, w_f, if_pos rfl, n1, w_u, if_pos rfl]
  have r30 : Tp.2.1 30 1 = x28 := by
    rw [row 30 (by decide) (by decide) (by decide) (by decide) (by decide), e25, w_f, if_neg (by decide), e22, w_f, if_neg (by decide), e15, w_f, if_neg (by decide), e8, w_f, if_pos rfl, n1, w_u, if_pos rfl]
  have r33 : Tp.2.1 33 1 = f1 := by
    rw [row 33 (by decide) (by decide) (by decide) (by decide) (by decide), e25, w_f, if_neg (by decide), e22, w_f, if_neg (by decide), e15, w_f, if_pos rfl, n1, w_u, if_pos rfl]
  have r34 : Tp.2.1 34 1 = f2 := by
    rw [row 34 (by decide) (by decide) (by decide) (by decide) (by decide), e25, w_f, if_neg (by decide), e22, w_f, if_pos rfl, n1, w_u, if_pos rfl]
  have r38 : Tp.2.1 38 1 = 0 := by
    rw [row 38 (by decide) (by decide) (by decide) (by decide) (by decide), e25, w_f, if_pos rfl, n1, w_u, if_pos rfl]
  have r31 : ∀ a, a = 31 ∨ a = 32 → Tp.2.1 a = Tc.2.1 a := fun a h => (rp.2 a (by omega)).1
  have r7 : Tp.2.1 37 = T37.2.1 37 := by rw [(rp.2 37 (by decide)).1, (rc.2 37 (by decide)).1]
  have wf := (s_oA_wf hG ⟨en, oc, u1, pc, w1, tu, ds, by omega, by omega⟩ (fun i hi => (t2 i hi).2)).2.1
  refine ⟨fun c hc => ?_, by rw [r29, v48]; rfl, by rw [r30, v28]; rfl, ⟨by rw [r33]; exact u2, fun k hk => ?_⟩, fun k hk => ?_, ⟨by rw [r34]; exact w2, fun k hk => ?_⟩, fun k hk => ?_, ?_, by decide, fun i hi => absurd hi (Nat.not_lt_zero _)⟩
  · have hc0 := hc.1
    have ad : mx_ad 1 c = 64 + c.toNat := by unfold mx_ad; omega
    have cd : ((c.toNat : Nat) : Int) = c := by omega
    obtain ⟨o1, o2⟩ := ov c.toNat (by omega) (by rw [cd]; exact hc)
    rw [ad, r31 31 (Or.inl rfl), r31 32 (Or.inr rfl)]
    exact ⟨o1, o2, wf c hc⟩
  · rw [r33, u3 k hk]
    rfl
  · rw [show 16 * 1 + k = 16 + k by omega]
    exact pv k hk
  · rw [r34, w3 k (by omega)]
    rfl
  · rw [show 10 * 1 + k = 10 + k by omega, r7]
    exact tv k hk
  · rw [r38]
    exact z0
set_option maxHeartbeats 4000000 in
theorem mx_comesOn (ok : s_ok G K A U) (h : RM G K A L U x S) (tb : mx_by n B S) (ha : a1.toInt = n) : ∃ (T : dg_S) (y : Int32), F_m_comesOn o S a1 = (T, y) ∧ k_v 1 S T ∧ ((y = 1 ∧ s_OV G B n ∧ mx_lay G (s_oA G B) [] T 1) ∨ (y = 0 ∧ ¬ s_OV G B n)) := by
  have z0 : (0 : Int32).toInt = 0 := by decide +kernel
  have z1 : (1 : Int32).toInt = 1 := by decide +kernel
  have z3 : (3 : Int32).toInt = 3 := by decide +kernel
  have z5 : (5 : Int32).toInt = 5 := by decide +kernel
  have z10 : (10 : Int32).toInt = 10 := by decide +kernel
  have z251 : (251 : Int32).toInt = 251 := by decide +kernel
  have z233 : (233 : Int32).toInt = 233 := by decide +kernel
  have z999 : (999 : Int32).toInt = 999 := by decide +kernel
  have z99999 : (99999 : Int32).toInt = 99999 := by decide +kernel
  have n0 : (0 : Int32).toNatClampNeg = 0 := by decide +kernel
  have n1 : (1 : Int32).toNatClampNeg = 1 := by decide +kernel
  have n2 : (2 : Int32).toNatClampNeg = 2 := by decide +kernel
  have n3 : (3 : Int32).toNatClampNeg = 3 := by decide +kernel
  have n4 : (4 : Int32).toNatClampNeg = 4 := by decide +kernel
  have s8 : (((8 : Int32) &&& 31).toBitVec.smod 32).toNat = 8 := by decide +kernel
  have s16 : (((16 : Int32) &&& 31).toBitVec.smod 32).toNat = 16 := by decide +kernel
  have hG := ok.1
  have hb := hG.1.2.2.2
  have h5 := hG.2.2.2.1
  have h6 := hG.1.2.2
  have h7 := hG.2.2.2.2.1
  obtain ⟨gm, ⟨f5, f6, f8, f12⟩, -⟩ := id h.1
  obtain ⟨g47, g2, g3, g4, g9⟩ := id gm.1
  obtain ⟨c1, c2⟩ := s_cp64 hG.1
  have eH : s_H G = 5 + s_cp G 64 := rfl
  have eP : s_Pp G = s_H G + (G 0 5).toNat := rfl
  have eO : s_Oo G = s_Pp G + 3 * (G 0 6).toNat := rfl
  have eT : s_Tt G = s_Oo G + (G 0 7).toNat := rfl
  have eE : s_Ee G = s_Tt G + 10 := rfl
  have nz : ¬ zI S 0 47 = (0 : Int32) := fun z => g47 (by rw [z]; exact z0)
  obtain ⟨t1, t2⟩ := id tb
  obtain ⟨x7, hx7⟩ : ∃ u : Int32, u = S.2.1 2 (zI S 0 13).toNatClampNeg * S.2.1 3 (zI S 0 13).toNatClampNeg := ⟨_, rfl⟩
  have v7 : x7.toInt = ((s_cp G 64 : Nat) : Int) := by rw [hx7, c1]; exact dk_mulT g2 g3 (by omega) (by omega)
  obtain ⟨x8, hx8⟩ : ∃ u : Int32, u = (5 : Int32) + x7 := ⟨_, rfl⟩
  have v8 : x8.toInt = ((s_H G : Nat) : Int) := by rw [hx8, dk_addT z5 v7 (by omega) (by omega)]; omega
  obtain ⟨x11, hx11⟩ : ∃ u : Int32, u = x8 + S.2.1 8 (zI S 0 13).toNatClampNeg := ⟨_, rfl⟩
  have v11 : x11.toInt = ((s_Pp G : Nat) : Int) := by rw [hx11, dk_addT v8 f8 (by omega) (by omega)]; omega
  obtain ⟨x14, hx14⟩ : ∃ u : Int32, u = (3 : Int32) * S.2.1 9 (zI S 0 13).toNatClampNeg := ⟨_, rfl⟩
  have v14 : x14.toInt = 3 * G 0 6 := by rw [hx14]; exact dk_mulT z3 g9 (by omega) (by omega)
  obtain ⟨x15, hx15⟩ : ∃ u : Int32, u = x11 + x14 := ⟨_, rfl⟩
  have v15 : x15.toInt = ((s_Oo G : Nat) : Int) := by rw [hx15, dk_addT v11 v14 (by omega) (by omega)]; omega
  obtain ⟨x18, hx18⟩ : ∃ u : Int32, u = x15 + S.2.1 12 (zI S 0 13).toNatClampNeg := ⟨_, rfl⟩
  have v18 : x18.toInt = ((s_Tt G : Nat) : Int) := by rw [hx18, dk_addT v15 f12 (by omega) (by omega)]; omega
  obtain ⟨x35, hx35⟩ : ∃ u : Int32, u = x18 + (10 : Int32) := ⟨_, rfl⟩
  have v35 : x35.toInt = ((s_Ee G : Nat) : Int) := by rw [hx35, dk_addT v18 z10 (by omega) (by omega)]; omega
  obtain ⟨x36, hx36⟩ : ∃ u : Int32, u = x35 + (1 : Int32) := ⟨_, rfl⟩
  have v36 : x36.toInt = ((s_Ee G + 1 : Nat) : Int) := by rw [hx36, dk_addT v35 z1 (by omega) (by omega)]; omega
  by_cases qn : a1 = x36
  rotate_left
  · exact ⟨S, 0, F_m_comesOn_p1 rfl rfl rfl rfl hx7 hx8 rfl hx11 rfl hx14 hx15 rfl hx18 nz hx35 hx36 qn, k_v.rf, Or.inr ⟨rfl, fun V => qn (Int32.toInt_inj.mp (by rw [ha, v36, V.1]))⟩⟩
  have en : n = s_Ee G + 1 := by
    have := w_eq.mp qn
    omega
  obtain ⟨b0, b0a, b0b⟩ := t2 0 (by omega)
  obtain ⟨b1, b1a, b1b⟩ := t2 1 (by omega)
  obtain ⟨b2, b2a, b2b⟩ := t2 2 (by omega)
  obtain ⟨b3, b3a, b3b⟩ := t2 3 (by omega)
  obtain ⟨b4, b4a, b4b⟩ := t2 4 (by omega)
  obtain ⟨x44, hx44⟩ : ∃ u : Int32, u = S.2.1 1 (0 : Int32).toNatClampNeg := ⟨_, rfl⟩
  obtain ⟨x47, hx47⟩ : ∃ u : Int32, u = S.2.1 1 (1 : Int32).toNatClampNeg := ⟨_, rfl⟩
  obtain ⟨x20, hx20⟩ : ∃ u : Int32, u = S.2.1 1 (2 : Int32).toNatClampNeg := ⟨_, rfl⟩
  obtain ⟨x23, hx23⟩ : ∃ u : Int32, u = S.2.1 1 (3 : Int32).toNatClampNeg := ⟨_, rfl⟩
  obtain ⟨x27, hx27⟩ : ∃ u : Int32, u = S.2.1 1 (4 : Int32).toNatClampNeg := ⟨_, rfl⟩
  have v44 : x44.toInt = B 0 := by rw [hx44, n0]; exact b0
  have v47 : x47.toInt = B 1 := by rw [hx47, n1]; exact b1
  have v20 : x20.toInt = B 2 := by rw [hx20, n2]; exact b2
  have v23 : x23.toInt = B 3 := by rw [hx23, n3]; exact b3
  have v27 : x27.toInt = B 4 := by rw [hx27, n4]; exact b4
  have p8 : (2 : Nat) ^ 8 = 256 := by decide
  have p16 : (2 : Nat) ^ 16 = 65536 := by decide
  obtain ⟨x45, hx45⟩ : ∃ u : Int32, u = x44 <<< ((8 : Int32) &&& 31) := ⟨_, rfl⟩
  have v45 : x45.toInt = ((2 ^ 8 * (B 0).toNat : Nat) : Int) := by
    rw [hx45, w_shlk (v := (B 0).toNat) (by omega) (by omega) (by decide) s8, p8]
    omega
  obtain ⟨x48, hx48⟩ : ∃ u : Int32, u = x45 ||| x47 := ⟨_, rfl⟩
  have v48 : x48.toInt = 256 * B 0 + B 1 := by
    rw [hx48, w_orN (r := 8) (b := (B 1).toNat) (by decide) v45 (by omega) (by rw [p8]; omega) (by rw [p8]; omega), p8]
    omega
  obtain ⟨x21, hx21⟩ : ∃ u : Int32, u = x20 <<< ((16 : Int32) &&& 31) := ⟨_, rfl⟩
  have v21 : x21.toInt = ((2 ^ 16 * (B 2).toNat : Nat) : Int) := by
    rw [hx21, w_shlk (v := (B 2).toNat) (by omega) (by omega) (by decide) s16, p16]
    omega
  obtain ⟨x24, hx24⟩ : ∃ u : Int32, u = x23 <<< ((8 : Int32) &&& 31) := ⟨_, rfl⟩
  have v24 : x24.toInt = ((256 * (B 3).toNat : Nat) : Int) := by
    rw [hx24, w_shlk (v := (B 3).toNat) (by omega) (by omega) (by decide) s8, p8]
    omega
  obtain ⟨x25, hx25⟩ : ∃ u : Int32, u = x21 ||| x24 := ⟨_, rfl⟩
  have v25 : x25.toInt = ((2 ^ 8 * (256 * (B 2).toNat + (B 3).toNat) : Nat) : Int) := by
    rw [hx25, w_orN (r := 16) (b := 256 * (B 3).toNat) (by decide) v21 v24 (by rw [p16]; omega) (by rw [p16]; omega), p16, p8]
    omega
  obtain ⟨x28, hx28⟩ : ∃ u : Int32, u = x25 ||| x27 := ⟨_, rfl⟩
  have v28 : x28.toInt = 65536 * B 2 + 256 * B 3 + B 4 := by
    rw [hx28, w_orN (r := 8) (b := (B 4).toNat) (by decide) v25 (by omega) (by rw [p8]; omega) (by rw [p8]; omega), p8]
    omega
  by_cases q9 : (999 : Int32) < x48
  · have d9 := w_lt.mp q9
    exact ⟨S, 0, F_m_comesOn_p2 rfl rfl rfl rfl hx7 hx8 rfl hx11 rfl hx14 hx15 rfl hx18 nz hx35 hx36 qn hx44 hx45 hx47 hx48 q9, k_v.rf, Or.inr ⟨rfl, fun V => by have := V.2.2.2.2.2.2.2.1; omega⟩⟩
  have d9 : ¬ (999 : Int32).toInt < x48.toInt := fun z => q9 (w_lt.mpr z)
  by_cases q99 : x28 ≤ (99999 : Int32)
  rotate_left
  · have d99 : ¬ x28.toInt ≤ (99999 : Int32).toInt := fun z => q99 (w_le.mpr z)
    exact ⟨S, 0, F_m_comesOn_p17 rfl rfl rfl rfl hx7 hx8 rfl hx11 rfl hx14 hx15 rfl hx18 hx20 hx21 hx23 hx24 hx25 hx27 hx28 nz hx35 hx36 qn hx44 hx45 hx47 hx48 q9 q99, k_v.rf, Or.inr ⟨rfl, fun V => by have := V.2.2.2.2.2.2.2.2; omega⟩⟩
  have d99 := w_le.mp q99
  rw [F_m_comesOn_p16 rfl rfl rfl rfl hx7 hx8 rfl hx11 rfl hx14 hx15 rfl hx18 hx20 hx21 hx23 hx24 hx25 hx27 hx28 nz hx35 hx36 qn hx44 hx45 hx47 hx48 q9 q99]
  have w615 : (a1 - (1 : Int32)).toInt = ((s_Ee G : Nat) : Int) := by rw [dk_subT ha z1 (by omega) (by omega)]; omega
  have sum := lp_cnt (f := F_m_comesOn_B5 a1 S o x44 x47 x28 x8 (S.2.1 8 (zI S 0 13).toNatClampNeg) x15 (S.2.1 12 (zI S 0 13).toNatClampNeg) x11 x18) (z := (S, (0 : Int32))) (W := s_Ee G) (P := fun c s => s.toInt = s_cb B c) (Q := fun q => ∃ w : Int32, w.toInt = s_cb B (s_Ee G) ∧ q = F_m_comesOn_J1 a1 S w o x44 x47 x28 x8 (S.2.1 8 (zI S 0 13).toNatClampNeg) x15 (S.2.1 12 (zI S 0 13).toNatClampNeg) x11 x18) (by omega) (fun c cI s hc hcI hP => by
    have q0 : ¬ a1 - (1 : Int32) ≤ cI := fun z => by have := w_le.mp z; omega
    have nc : cI.toNatClampNeg = c := by rw [dk_clN, hcI]; omega
    obtain ⟨y1, y2, y3⟩ := t2 c (by omega)
    have cb := s_cb_b (B := B) c
    have hP : s.toInt = s_cb B c := hP
    have e5 : ((5 : Int32) * s).toInt = 5 * s_cb B c := dk_mulT z5 hP (by omega) (by omega)
    obtain ⟨u, hu⟩ : ∃ u : Int32, u = (5 : Int32) * s + S.2.1 1 cI.toNatClampNeg := ⟨_, rfl⟩
    have eu : u.toInt = 5 * s_cb B c + B c := by rw [hu, nc]; exact dk_addT e5 y1 (by omega) (by omega)
    refine ⟨u - u / (251 : Int32) * (251 : Int32), F_m_comesOn_p15 rfl q0 rfl rfl hu rfl rfl, ?_⟩
    show (u - u / (251 : Int32) * (251 : Int32)).toInt = _
    rw [dk_remL (by omega) z251 (by decide), eu]
    rfl) (fun cI s hcI hP => ⟨_, F_m_comesOn_p14 rfl (w_le.mpr (by omega)), s, hP, rfl⟩) ((124 - ((0 : Int32)).toInt).toNat + 1) 0 0 (233 : Int32) (by rw [z0]; omega) (by omega) z0 z233
  obtain ⟨w, hw, eJ⟩ := sum
  rw [eJ]
  exact mx_onJ1 ok h tb ha en v8 v11 v15 v18 f8 f12 (by rw [← hx45, ← hx48]; exact v48) v28 (by omega) (by omega) hw
end FL
end
section
/-! ON: both sides -/
section FM
variable {o oX oM g n p q k i N : Nat} {G A A' : aR} {K : Nat → List Int} {B : Nat → Int} {L : s_L} {U : s_U} {S S0 S1 SX SM T T1 : dg_S} {x x' r c v t m : Int} {a a1 a2 a3 a4 y : Int32}
/-- an image read, or refused -/
theorem mx_on (ok : s_ok G K A U) (h : RM G K A L U x S) (tp : mx_tp n B S) : ∃ (S1 : dg_S) (y : Int32), F_m_on o S = (S1, y) ∧ (zI S1 0 1).toInt = 0 ∧ ((s_OV G B n ∧ y = 1 ∧ RM G K (s_oA G B) [] [] x S1 ∧ S1.2.1 28 = S.2.1 28) ∨ (¬ s_OV G B n ∧ y = 0 ∧ RM G K A L U x S1 ∧ S1.2.1 28 = upd (S.2.1 28) 5 (S.2.1 28 5 + (1 : Int32)))) ∧ kp (fun a b => a = 0 ∧ (b = 1 ∨ b = 61)) (fun a => 28 ≤ a ∧ a ≤ 44) S S1 := by
  have z0 : (0 : Int32).toInt = 0 := by decide +kernel
  have hG := ok.1
  have hb := hG.1.2.2.2
  obtain ⟨S2, e2⟩ : ∃ X, X = dg_uF S 0 1 (.int (0 : Int32)) := ⟨_, rfl⟩
  have k2 : kp (fun a b => a = 0 ∧ b = 1) (fun _ => False) S S2 := by rw [e2]; exact kp.uF kp.rf ⟨rfl, rfl⟩
  have r2 : RM G K A L U x S2 := h.keep hb k2 (fun b hb => by omega) (fun _ _ => id) (fun _ _ _ => id)
  have f2 : (zI S2 0 1).toInt = 0 := by rw [e2, w_I, if_pos ⟨rfl, rfl⟩]; exact z0
  have tb : mx_by n B S2 := ⟨tp.2.1, fun i hi => by rw [e2]; exact tp.2.2 i hi⟩
  obtain ⟨T, y, eT, kT, D⟩ := mx_comesOn (o := o) (a1 := zI S 0 1) ok r2 tb tp.1
  have rT : RM G K A L U x T := r2.v hb kT (by decide) (kT.lay r2.2.1 (by decide) hb)
  have kk : kp (fun a b => a = 0 ∧ (b = 1 ∨ b = 61)) (fun a => 28 ≤ a ∧ a ≤ 44) S T := (k2.w (fun a b z => by omega) (fun a z => z.elim)).tr (kT.1.w (fun a b z => z.elim) (fun a z => by omega))
  rcases D with ⟨y1, V, l1⟩ | ⟨y0, V⟩
  · have ny : ¬ y = (0 : Int32) := by rw [y1]; decide
    obtain ⟨T3, e3, k3, l3⟩ := mx_copies (o := o) (S := T) (v := 0) (u := 1) (a1 := 0) (a2 := 1) (by decide +kernel) (by decide +kernel) (by decide) (by decide) (by decide) l1 hb
    have r3 : RM G K (s_oA G B) [] U x T3 := rT.v hb k3 (by decide) l3
    obtain ⟨T4, e4⟩ : ∃ X, X = dg_uF T3 0 61 (.int (0 : Int32)) := ⟨_, rfl⟩
    have k4 : kp (fun a b => a = 0 ∧ b = 61) (fun _ => False) T3 T4 := by rw [e4]; exact kp.uF kp.rf ⟨rfl, rfl⟩
    refine ⟨T4, 1, ?_, ?_, Or.inl ⟨V, rfl, ⟨?_, ?_, ?_, ?_, ?_⟩, ?_⟩, (kk.tr (k3.1.w (fun a b z => z.elim) (fun a z => by omega))).tr (k4.w (fun a b z => by omega) (fun a z => z.elim))⟩
    · rw [F_m_on_p1 rfl e2 (show T = _ by rw [eT]) (show y = _ by rw [eT]) ny e3.symm e4, F_m_on_p0]
    · rw [k4.I (by decide), k3.I, kT.I, f2]
    · exact r3.1.keep (k4.I (by decide)) (k4.I (by decide)) (fun i _ => (k4.2 i id).1)
    · exact r3.2.1.keep hb (fun a _ _ j _ _ => by rw [(k4.2 a id).1])
    · obtain ⟨f, fl, f60, -⟩ := r3.2.2.1.2.2
      refine ⟨?_, by decide, f, fl, by rw [k4.I (by decide)]; exact f60, fun i e he => by simp at he⟩
      rw [e4, w_I, if_pos ⟨rfl, rfl⟩]
      exact z0
    · rw [k4.I (by decide)]
      exact r3.2.2.2.1
    · rw [k4.L (by decide)]
      exact r3.2.2.2.2
    · rw [(k4.2 28 id).1, k3.row (by decide), kT.row (by decide), e2]
      rfl
  · obtain ⟨T3, e3, r3, es⟩ := mx_ref (o := o) (a1 := 5) (k := 5) hb rT (by decide +kernel)
    have k3 : kp (fun _ _ => False) (fun a => a = 28) T T3 := by rw [es]; exact kp.uf kp.rf rfl
    have row : T.2.1 28 = S.2.1 28 := by
      rw [kT.row (by decide), e2]
      rfl
    refine ⟨T3, 0, F_m_on_p2 rfl e2 (show T = _ by rw [eT]) (show y = _ by rw [eT]) y0 (show T3 = _ by rw [e3]), ?_, Or.inr ⟨V, rfl, r3, ?_⟩, kk.tr (k3.w (fun a b z => z.elim) (fun a z => by omega))⟩
    · rw [k3.I id, kT.I, f2]
    · rw [es, w_f, if_pos rfl, row]
/-- ON: both sides -/
theorem sim_on (ok : s_ok G K A U) (hX : RX oX g G K A L U x SX) (tX : cx_tp n B SX) (hM : RM G K A L U x SM) (tM : mx_tp n B SM) : (F_d_on oX SX).2 = (F_m_on oM SM).2 ∧ (zI (F_d_on oX SX).1 1 1).toInt = 0 ∧ (zI (F_m_on oM SM).1 0 1).toInt = 0 ∧ ((s_ok G K (s_oA G B) [] ∧ RX oX g G K (s_oA G B) [] [] x (F_d_on oX SX).1 ∧ RM G K (s_oA G B) [] [] x (F_m_on oM SM).1 ∧ (F_d_on oX SX).1.2.1 184 = SX.2.1 184 ∧ (F_m_on oM SM).1.2.1 28 = SM.2.1 28 ∧ zI (F_d_on oX SX).1 221 2 = 0 ∧ zI (F_d_on oX SX).1 221 3 = 0 ∧ zI (F_d_on oX SX).1 229 4 = 0) ∨ (RX oX g G K A L U x (F_d_on oX SX).1 ∧ RM G K A L U x (F_m_on oM SM).1 ∧ (F_d_on oX SX).1.2.1 184 = upd (SX.2.1 184) 5 (SX.2.1 184 5 + (1 : Int32)) ∧ (F_m_on oM SM).1.2.1 28 = upd (SM.2.1 28) 5 (SM.2.1 28 5 + (1 : Int32)) ∧ ∀ a b, a = 221 ∨ a = 229 → zI (F_d_on oX SX).1 a b = zI SX a b)) ∧ kp (fun a b => (a = 182 ∧ 3 ≤ b) ∨ (a = 10 ∧ b < 2) ∨ (a = 3 ∧ b < 2) ∨ (a = 1 ∧ b = 1) ∨ (a = 17 ∧ (b = 1 ∨ b = 2)) ∨ (a = 221 ∧ (b = 2 ∨ b = 3)) ∨ (a = 229 ∧ b = 4)) (fun a => (3 ≤ a ∧ a ≤ 16) ∨ a = 184) SX (F_d_on oX SX).1 ∧ kp (fun a b => a = 0 ∧ (b = 1 ∨ b = 61)) (fun a => 28 ≤ a ∧ a ≤ 44) SM (F_m_on oM SM).1 := by
  obtain ⟨S1, y1, e1, q1, D1, k1⟩ := cx_on (o := oX) ok.1 hX tX
  obtain ⟨S2, y2, e2, q2, D2, k2⟩ := mx_on (o := oM) ok hM tM
  rw [e1, e2]
  rcases D1 with ⟨V1, w1, r1, s1, c1, c2, c3⟩ | ⟨V1, w1, r1, s1, c1⟩ <;> rcases D2 with ⟨V2, w2, r2, s2⟩ | ⟨V2, w2, r2, s2⟩
  · have wf := s_oA_wf ok.1 V1 (fun i hi => (tX.2.2 i hi).2)
    exact ⟨by rw [w1, w2], q1, q2, Or.inl ⟨⟨ok.1, ok.2.1, wf, fun i e he => by simp at he⟩, r1, r2, s1, s2, c1, c2, c3⟩, k1, k2⟩
  · exact absurd V1 V2
  · exact absurd V2 V1
  · exact ⟨by rw [w1, w2], q1, q2, Or.inr ⟨r1, r2, s1, s2, c1⟩, k1, k2⟩
end FM
end
section
/-! the law: one relation of both states; what stays -/
def LT (SX SM : dg_S) : Prop := ∃ (n : Nat) (B : Nat → Int), cx_tp n B SX ∧ mx_tp n B SM
def LR (SX SM : dg_S) : Prop := ∀ k, k < 6 → SX.2.1 184 k = SM.2.1 28 k
def LI (SX SM : dg_S) : Prop := ∃ n : Nat, (zI SX 182 1).toInt = n ∧ (zI SM 0 76).toInt = n ∧ n ≤ 200 ∧ ∀ i, i < n → SX.2.1 183 i = SM.2.1 50 i
def LG (oX gD gE : Nat) (S : dg_S) : Prop := (rX gD ∧ rX gE ∧ gD ≠ gE) ∧ S.1 0 6 = .ref (oX + gD) ∧ S.1 0 7 = .ref (oX + gE)
/-- a mine has been told -/
def LSy (oX g : Nat) (G : aR) (K : Nat → List Int) (A : aR) (L : s_L) (U : s_U) (x : Int) (F : s_F) (SX SM : dg_S) : Prop := (s_ok G K A U ∧ (0 ≤ x ∧ x < 2147483648) ∧ s_fk G F) ∧ (RX oX g G K A L U x SX ∧ RM G K A L U x SM) ∧ (cx_fe F SX ∧ mx_fe F SM) ∧ cx_cs G K A SX ∧ cx_cc G K A SX ∧ cx_ct G K A F SX
/-- none has -/
def LSn (oX g : Nat) (x : Int) (SX SM : dg_S) : Prop := (0 ≤ x ∧ x < 2147483648) ∧ (cx_0 oX g x SX ∧ mx_0 x SM) ∧ zI SX 229 5 = zI SM 0 69
def LSs (oX : Nat) (SX SM : dg_S) : Prop := (∃ (g : Nat) (G : aR) (K : Nat → List Int) (A : aR) (L : s_L) (U : s_U) (x : Int) (F : s_F), LSy oX g G K A L U x F SX SM) ∨ ∃ (g : Nat) (x : Int), LSn oX g x SX SM
def LW (oX gD gE : Nat) (SX SM : dg_S) : Prop := LT SX SM ∧ LR SX SM ∧ LI SX SM ∧ LG oX gD gE SX ∧ LSs oX SX SM
/-- refused -/
def r_X (k : Nat) (S : dg_S) : dg_S := dg_uf S 184 (upd (S.2.1 184) k (S.2.1 184 k + (1 : Int32)))
def r_M (k : Nat) (S : dg_S) : dg_S := dg_uf S 28 (upd (S.2.1 28) k (S.2.1 28 k + (1 : Int32)))
abbrev ckB (WF : List (Nat × Nat)) (WA : List Nat) (WF' : List (Nat × Nat)) (WA' : List Nat) : Prop := ((1, 1) ∉ WF ∧ (16, 1) ∉ WF ∧ (0, 6) ∉ WF ∧ (0, 7) ∉ WF) ∧ (2 ∉ WA ∧ 17 ∉ WA) ∧ ((0, 1) ∉ WF' ∧ (0, 76) ∉ WF') ∧ 1 ∉ WA' ∧ 50 ∉ WA'
abbrev ckR (WA WA' : List Nat) : Prop := 18 ∉ WA ∧ 28 ∉ WA'
abbrev ckS (WF : List (Nat × Nat)) : Prop := WF.all (fun p => decide (p.1 ≠ 43 ∧ p.1 ≠ 44)) = true
abbrev ckF (WF : List (Nat × Nat)) (WA : List Nat) (WF' : List (Nat × Nat)) (WA' : List Nat) : Prop := ((44, 5) ∉ WF ∧ 45 ∉ WA) ∧ (0, 69) ∉ WF' ∧ 45 ∉ WA' ∧ 46 ∉ WA' ∧ 47 ∉ WA'
section LA
variable {o oX oM g gD gE n k i : Nat} {sh : List dg_q} {WF WF' : List (Nat × Nat)} {WA WA' : List Nat} {S S0 S1 S2 SX SM : dg_S} {G A : aR} {K : Nat → List Int} {L : s_L} {U : s_U} {F : s_F} {x : Int} {a a1 : Int32} {B : Nat → Int}
theorem sFI (m : dg_sm sh WF WA S S1) {c j : Nat} {q : dg_q} (h : sh[c]? = some q) (z : (q.2.2.2, j) ∉ WF) : zI S1 c j = zI S c j := by
  unfold zI
  rw [m.1 c j q h z]
theorem sFA (m : dg_sm sh WF WA S S1) {c : Nat} {q : dg_q} (h : sh[c]? = some q) (z : q.2.2.2 ∉ WA) : S1.2.1 c = S.2.1 c := (m.2 c q h z).1
theorem aX_0 : shX[0]? = some (0, 11, 13, 0) := by decide +kernel
theorem aX_1 : shX[1]? = some (0, 8, 2, 1) := by decide +kernel
theorem aX_2 : shX[2]? = some (1, 0, 1600, 2) := by decide +kernel
theorem aX_182 : shX[182]? = some (0, 4, 6, 16) := by decide +kernel
theorem aX_183 : shX[183]? = some (1, 0, 124, 17) := by decide +kernel
theorem aX_184 : shX[184]? = some (1, 0, 6, 18) := by decide +kernel
theorem aX_221 : shX[221]? = some (0, 1, 9, 43) := by decide +kernel
theorem aX_229 : shX[229]? = some (0, 0, 9, 44) := by decide +kernel
theorem aX_230 : shX[230]? = some (1, 0, 64, 45) := by decide +kernel
theorem aM_0 : shM[0]? = some (0, 12, 77, 0) := by decide +kernel
theorem aM_1 : shM[1]? = some (1, 0, 1800, 1) := by decide +kernel
theorem aM_28 : shM[28]? = some (1, 0, 6, 28) := by decide +kernel
theorem aM_45 : shM[45]? = some (1, 0, 16, 45) := by decide +kernel
theorem aM_46 : shM[46]? = some (1, 0, 16, 46) := by decide +kernel
theorem aM_47 : shM[47]? = some (1, 0, 16, 47) := by decide +kernel
theorem aM_50 : shM[50]? = some (1, 0, 150, 50) := by decide +kernel
theorem LT.eq (h : LT SX SM) (e1 : zI S1 1 1 = zI SX 1 1) (e2 : S1.2.1 2 = SX.2.1 2) (e3 : zI S2 0 1 = zI SM 0 1) (e4 : S2.2.1 1 = SM.2.1 1) : LT S1 S2 := by
  obtain ⟨n, B, ⟨h1, h2, h3⟩, h4, h5, h6⟩ := h
  exact ⟨n, B, ⟨by rw [e1]; exact h1, h2, fun i hi => by rw [e2]; exact h3 i hi⟩, by rw [e3]; exact h4, h5, fun i hi => by rw [e4]; exact h6 i hi⟩
theorem LI.eq (h : LI SX SM) (e1 : zI S1 182 1 = zI SX 182 1) (e2 : S1.2.1 183 = SX.2.1 183) (e3 : zI S2 0 76 = zI SM 0 76) (e4 : S2.2.1 50 = SM.2.1 50) : LI S1 S2 := by
  obtain ⟨n, h1, h2, h3, h4⟩ := h
  exact ⟨n, by rw [e1]; exact h1, by rw [e3]; exact h2, h3, fun i hi => by rw [e2, e4]; exact h4 i hi⟩
theorem LR.eq (h : LR SX SM) (e1 : S1.2.1 184 = SX.2.1 184) (e2 : S2.2.1 28 = SM.2.1 28) : LR S1 S2 := fun j hj => by rw [e1, e2]; exact h j hj
theorem LR.up (h : LR SX SM) (hk : k < 6) (e1 : S1.2.1 184 = upd (SX.2.1 184) k (SX.2.1 184 k + (1 : Int32))) (e2 : S2.2.1 28 = upd (SM.2.1 28) k (SM.2.1 28 k + (1 : Int32))) : LR S1 S2 := fun j hj => by
  rw [e1, e2, w_u, w_u, h k hk]
  by_cases z : j = k
  · rw [if_pos z, if_pos z]
  · rw [if_neg z, if_neg z]
    exact h j hj
theorem LG.eq (h : LG oX gD gE SX) (e6 : S1.1 0 6 = SX.1 0 6) (e7 : S1.1 0 7 = SX.1 0 7) : LG oX gD gE S1 := ⟨h.1, e6.trans h.2.1, e7.trans h.2.2⟩
/-- tape, image, grounds stay -/
theorem LW.mk (w : LW oX gD gE SX SM) (mX : dg_sm shX WF WA SX S1) (mM : dg_sm shM WF' WA' SM S2) (c : ckB WF WA WF' WA') (hR : LR S1 S2) (hS : LSs oX S1 S2) : LW oX gD gE S1 S2 :=
  ⟨w.1.eq (sFI mX aX_1 c.1.1) (sFA mX aX_2 c.2.1.1) (sFI mM aM_0 c.2.2.1.1) (sFA mM aM_1 c.2.2.2.1), hR, w.2.2.1.eq (sFI mX aX_182 c.1.2.1) (sFA mX aX_183 c.2.1.2) (sFI mM aM_0 c.2.2.1.2) (sFA mM aM_50 c.2.2.2.2), w.2.2.2.1.eq (mX.1 0 6 _ aX_0 c.1.2.2.1) (mX.1 0 7 _ aX_0 c.1.2.2.2), hS⟩
theorem LR.sm (h : LR SX SM) (mX : dg_sm shX WF WA SX S1) (mM : dg_sm shM WF' WA' SM S2) (c : ckR WA WA') : LR S1 S2 := h.eq (sFA mX aX_184 c.1) (sFA mM aM_28 c.2)
theorem k_sk.m (m : dg_sm shX WF WA S S1) (c : ckS WF) (z : 45 ∉ WA) : k_sk S S1 :=
  ⟨fun b => sFI m aX_221 (fun q => absurd rfl (of_decide_eq_true (List.all_eq_true.mp c _ q)).1), fun b => sFI m aX_229 (fun q => absurd rfl (of_decide_eq_true (List.all_eq_true.mp c _ q)).2), sFA m aX_230 z⟩
theorem cx_fe.f (h : cx_fe F S) (e5 : zI S1 229 5 = zI S 229 5) (e : S1.2.1 230 = S.2.1 230) : cx_fe F S1 := by
  obtain ⟨h1, h2⟩ := h
  exact ⟨by rw [e5]; exact h1, fun i hi => by rw [e]; exact h2 i hi⟩
theorem mx_fe.f (h : mx_fe F S) (e9 : zI S1 0 69 = zI S 0 69) (e5 : S1.2.1 45 = S.2.1 45) (e6 : S1.2.1 46 = S.2.1 46) (e7 : S1.2.1 47 = S.2.1 47) : mx_fe F S1 := by
  obtain ⟨h1, h2⟩ := h
  exact ⟨by rw [e9]; exact h1, fun i hi => by rw [e5, e6, e7]; exact h2 i hi⟩
theorem fe_sm (mX : dg_sm shX WF WA SX S1) (mM : dg_sm shM WF' WA' SM S2) (c : ckF WF WA WF' WA') (h : cx_fe F SX ∧ mx_fe F SM) : cx_fe F S1 ∧ mx_fe F S2 :=
  ⟨h.1.f (sFI mX aX_229 c.1.1) (sFA mX aX_230 c.1.2), h.2.f (sFI mM aM_0 c.2.1) (sFA mM aM_45 c.2.2.1) (sFA mM aM_46 c.2.2.2.1) (sFA mM aM_47 c.2.2.2.2)⟩
theorem n5_sm (mX : dg_sm shX WF WA SX S1) (mM : dg_sm shM WF' WA' SM S2) (c : ckF WF WA WF' WA') (h : zI SX 229 5 = zI SM 0 69) : zI S1 229 5 = zI S2 0 69 := by
  rw [sFI mX aX_229 c.1.1, sFI mM aM_0 c.2.1]
  exact h
theorem cx_cs.f (h : cx_cs G K A S) (k : ∀ b, b = 2 ∨ b = 4 ∨ b = 5 → zI S1 221 b = zI S 221 b) : cx_cs G K A S1 := by
  unfold cx_cs cx_shA at h ⊢
  rw [k 2 (by decide), k 4 (by decide), k 5 (by decide)]
  exact h
theorem cx_cc.f (h : cx_cc G K A S) (k : ∀ b, b = 3 ∨ b = 6 ∨ b = 7 ∨ b = 8 → zI S1 221 b = zI S 221 b) : cx_cc G K A S1 := by
  unfold cx_cc cx_chA at h ⊢
  rw [k 3 (by decide), k 6 (by decide), k 7 (by decide), k 8 (by decide)]
  exact h
theorem cx_ct.f (h : cx_ct G K A F S) (k : ∀ b, b = 4 ∨ b = 6 ∨ b = 7 ∨ b = 8 → zI S1 229 b = zI S 229 b) : cx_ct G K A F S1 := by
  unfold cx_ct cx_tA at h ⊢
  rw [k 4 (by decide), k 6 (by decide), k 7 (by decide), k 8 (by decide)]
  exact h
theorem none_r (hk : a1.toInt = k) : F_d_none o S a1 = (r_X k S, (-1 : Int32)) := by
  have kn : a1.toNatClampNeg = k := by rw [dk_clN]; omega
  rw [F_d_none_p0 rfl rfl rfl, kn]
  rfl
theorem no_r (hk : a1.toInt = k) : F_d_no o S a1 = (r_X k S, (0 : Int32)) := by
  have kn : a1.toNatClampNeg = k := by rw [dk_clN]; omega
  rw [F_d_no_p0 rfl rfl rfl, kn]
  rfl
theorem ref_r (hk : a1.toInt = k) : F_m_refuses o S a1 = (r_M k S, (-1 : Int32)) := by
  have kn : a1.toNatClampNeg = k := by rw [dk_clN]; omega
  rw [F_m_refuses_p0 rfl rfl rfl, kn]
  rfl
theorem r_X.kp : kp (fun _ _ => False) (fun a => a = 184) S (r_X k S) := kp.uf kp.rf rfl
theorem r_M.kp : kp (fun _ _ => False) (fun a => a = 28) S (r_M k S) := kp.uf kp.rf rfl
theorem cx_0.kk {LF : Nat → Nat → Prop} {LA : Nat → Prop} (h : cx_0 o g x S) (t : kp LF LA S S1) (f6 : ¬ LF 0 6) (f12 : ¬ LF 0 12) (fg : ∀ b, ¬ LF g b) (f3 : ∀ b, ¬ LF 3 b) (f17 : ∀ b, ¬ LF 17 b) (a4 : ¬ LA 4) (a9 : ¬ LA 9) : cx_0 o g x S1 := by
  obtain ⟨h1, ⟨g0, g1, g6, g8, g11⟩, ⟨p0, p1, p4, p9⟩, ⟨q1, q2⟩, hx⟩ := h
  exact ⟨by rw [t.R f6]; exact h1, ⟨by rw [t.I (fg 0)]; exact g0, by rw [t.I (fg 1)]; exact g1, by rw [t.I (fg 6)]; exact g6, by rw [t.I (fg 8)]; exact g8, by rw [t.I (fg 11)]; exact g11⟩, ⟨by rw [t.I (f3 0)]; exact p0, by rw [t.I (f3 1)]; exact p1, fun k => by rw [(t.2 4 a4).1]; exact p4 k, fun k => by rw [(t.2 9 a9).1]; exact p9 k⟩, ⟨by rw [t.I (f17 1)]; exact q1, by rw [t.I (f17 2)]; exact q2⟩, by rw [t.I f12]; exact hx⟩
theorem mx_0.kk {LF : Nat → Nat → Prop} {LA : Nat → Prop} (h : mx_0 x S) (t : kp LF LA S S1) (f : ∀ b, b = 13 ∨ b = 47 ∨ b = 61 ∨ b = 62 → ¬ LF 0 b) (al : ∀ a, a = 2 ∨ a = 3 ∨ a = 8 ∨ a = 9 ∨ a = 12 ∨ a = 29 ∨ a = 30 ∨ a = 33 ∨ a = 37 ∨ a = 38 → ¬ LA a) : mx_0 x S1 := by
  obtain ⟨h1, ⟨h2, h3, h8, h9, h12⟩, ⟨h29, h30, h33, h38, h37⟩, h61, hx⟩ := h
  have e13 : zI S1 0 13 = zI S 0 13 := t.I (f 13 (by decide))
  exact ⟨by rw [t.I (f 47 (by decide))]; exact h1, ⟨by rw [e13, (t.2 2 (al 2 (by decide))).1]; exact h2, by rw [e13, (t.2 3 (al 3 (by decide))).1]; exact h3, by rw [e13, (t.2 8 (al 8 (by decide))).1]; exact h8, by rw [e13, (t.2 9 (al 9 (by decide))).1]; exact h9, by rw [e13, (t.2 12 (al 12 (by decide))).1]; exact h12⟩, ⟨by rw [(t.2 29 (al 29 (by decide))).1]; exact h29, by rw [(t.2 30 (al 30 (by decide))).1]; exact h30, by rw [(t.2 33 (al 33 (by decide))).1]; exact h33, by rw [(t.2 38 (al 38 (by decide))).1]; exact h38, fun k => by rw [(t.2 37 (al 37 (by decide))).1]; exact h37 k⟩, by rw [t.I (f 61 (by decide))]; exact h61, by rw [t.L (f 62 (by decide))]; exact hx⟩
/-- what leaves both as they are -/
theorem LSy.kk {LF LF' : Nat → Nat → Prop} {LA LA' : Nat → Prop} (h : LSy oX g G K A L U x F SX SM) (t : kp LF LA SX S1) (t' : kp LF' LA' SM S2) (f06 : ¬ LF 0 6) (f012 : ¬ LF 0 12) (fg : ∀ a b, 185 ≤ a → a ≤ 208 → ¬ LF a b) (f3 : ∀ b, ¬ LF 3 b) (f17 : ∀ b, ¬ LF 17 b) (fh : ∀ a b, 42 ≤ a → a < 182 → ¬ LF a b) (fs : ∀ b, ¬ LF 221 b ∧ ¬ LF 229 b) (ag : ∀ a, 185 ≤ a → a ≤ 208 → ¬ LA a) (a3 : ∀ a, 4 ≤ a → a ≤ 9 → ¬ LA a) (a18 : ¬ LA 18) (ah : ∀ a, 21 ≤ a → a < 182 → ¬ LA a) (af : ¬ LA 230) (f' : ∀ b, b = 13 ∨ b = 47 ∨ b = 60 ∨ b = 61 ∨ b = 62 ∨ b = 63 ∨ b = 69 → ¬ LF' 0 b) (ag' : ∀ a, a ≤ 19 → ¬ LA' a) (al' : ∀ a, 29 ≤ a → a ≤ 39 → ¬ LA' a) (af' : ∀ a, 45 ≤ a → a ≤ 47 → ¬ LA' a) : LSy oX g G K A L U x F S1 S2 := by
  obtain ⟨h1, ⟨h2, h3⟩, ⟨h4, h5⟩, h6, h7, h8⟩ := h
  have hb := h1.1.1.1.2.2.2
  exact ⟨h1, ⟨h2.keep t f06 f012 fg f3 f17 fh ag a3 a18 ah, h3.keep hb t' (fun b hb => f' b (by omega)) ag' al'⟩, ⟨h4.f (t.I (fs 5).2) (t.2 230 af).1, h5.f (t'.I (f' 69 (by decide))) (t'.2 45 (af' 45 (by decide) (by decide))).1 (t'.2 46 (af' 46 (by decide) (by decide))).1 (t'.2 47 (af' 47 (by decide) (by decide))).1⟩, h6.f (fun b _ => t.I (fs b).1), h7.f (fun b _ => t.I (fs b).1), h8.f (fun b _ => t.I (fs b).2)⟩
theorem LSy.no (h : LSy oX g G K A L U x F SX SM) : LSy oX g G K A L U x F (r_X k SX) (r_M i SM) :=
  h.kk r_X.kp r_M.kp id id (fun _ _ _ _ => id) (fun _ => id) (fun _ => id) (fun _ _ _ _ => id) (fun _ => ⟨id, id⟩) (fun a _ _ => by omega) (fun a _ _ => by omega) (by decide) (fun a _ _ => by omega) (by decide) (fun _ _ => id) (fun a _ => by omega) (fun a _ _ => by omega) (fun a _ _ => by omega)
theorem LSn.no (h : LSn oX g x SX SM) : LSn oX g x (r_X k SX) (r_M i SM) :=
  ⟨h.1, ⟨h.2.1.1.kk r_X.kp id id (fun _ => id) (fun _ => id) (fun _ => id) (by decide) (by decide), h.2.1.2.kk r_M.kp (fun _ _ => id) (fun a _ => by omega)⟩, by rw [r_X.kp.I id, r_M.kp.I id]; exact h.2.2⟩
theorem LSs.no (h : LSs oX SX SM) : LSs oX (r_X k SX) (r_M i SM) := by
  rcases h with ⟨g, G, K, A, L, U, x, F, h⟩ | ⟨g, x, h⟩
  · exact Or.inl ⟨g, G, K, A, L, U, x, F, h.no⟩
  · exact Or.inr ⟨g, x, h.no⟩
theorem LR.no (h : LR SX SM) (hk : k < 6) : LR (r_X k SX) (r_M k SM) := h.up hk (by unfold r_X; rw [w_f, if_pos rfl]) (by unfold r_M; rw [w_f, if_pos rfl])
end LA
end
section
/-! the law: looks -/
abbrev ckL (WF : List (Nat × Nat)) (WA : List Nat) (WF' : List (Nat × Nat)) (WA' : List Nat) : Prop := ckB WF WA WF' WA' ∧ ckR WA WA' ∧ ckS WF ∧ ckF WF WA WF' WA'
abbrev ckC (WF : List (Nat × Nat)) (WA : List Nat) (WF' : List (Nat × Nat)) (WA' : List Nat) : Prop := ckB WF WA WF' WA' ∧ ckR WA WA' ∧ ckF WF WA WF' WA'
section LB
variable {o oX oM g gD gE n k i : Nat} {WF WF' : List (Nat × Nat)} {WA WA' : List Nat} {S S0 S1 S2 SX SM : dg_S} {G A : aR} {K : Nat → List Int} {L : s_L} {U : s_U} {F : s_F} {x : Int} {a a1 a2 a3 rX' rM' : Int32} {B : Nat → Int}
theorem LW.look (w : LW oX gD gE SX SM) (mX : dg_sm shX WF WA SX S1) (mM : dg_sm shM WF' WA' SM S2) (c : ckL WF WA WF' WA') (hy : ∀ g G K A L U x F, LSy oX g G K A L U x F SX SM → RX oX g G K A L U x S1 ∧ RM G K A L U x S2) (hn : ∀ g x, LSn oX g x SX SM → cx_0 oX g x S1 ∧ mx_0 x S2) : LW oX gD gE S1 S2 := by
  obtain ⟨c1, c2, c3, c4⟩ := c
  refine w.mk mX mM c1 (w.2.1.sm mX mM c2) ?_
  rcases w.2.2.2.2 with ⟨g, G, K, A, L, U, x, F, h⟩ | ⟨g, x, h⟩
  · have r := hy g G K A L U x F h
    have sk := k_sk.m mX c3 c4.1.2
    exact Or.inl ⟨g, G, K, A, L, U, x, F, h.1, r, fe_sm mX mM c4 h.2.2.1, h.2.2.2.1.f (fun b _ => sk.1 b), h.2.2.2.2.1.f (fun b _ => sk.1 b), h.2.2.2.2.2.f (fun b _ => sk.2.1 b)⟩
  · exact Or.inr ⟨g, x, h.1, hn g x h, n5_sm mX mM c4 h.2.2⟩
theorem W_cell (w : LW oX gD gE SX SM) (mX : dg_sm shX WF WA SX S1) (mM : dg_sm shM WF' WA' SM S2) (c : ckL WF WA WF' WA') (eX : S1 = (F_d_cell oX SX a1 a2 a3).1 ∧ rX' = (F_d_cell oX SX a1 a2 a3).2) (eM : S2 = (F_m_cell oM SM a1 a2 a3).1 ∧ rM' = (F_m_cell oM SM a1 a2 a3).2) : rX' = rM' ∧ LW oX gD gE S1 S2 := by
  obtain ⟨e1, e2⟩ := eX
  obtain ⟨e3, e4⟩ := eM
  subst e1 e3
  refine ⟨?_, w.look mX mM c (fun g G K A L U x F h => (sim_cell h.1.1 h.2.1.1 h.2.1.2).2) (fun g x h => ?_)⟩
  · rw [e2, e4]
    rcases w.2.2.2.2 with ⟨g, G, K, A, L, U, x, F, h⟩ | ⟨g, x, h⟩
    · exact (sim_cell h.1.1 h.2.1.1 h.2.1.2).1
    · rw [(sim0_cell (oM := oM) h.2.1.1 h.2.1.2).1, (sim0_cell (oM := oM) h.2.1.1 h.2.1.2).2]
  · rw [(sim0_cell (oM := oM) h.2.1.1 h.2.1.2).1, (sim0_cell (oM := oM) h.2.1.1 h.2.1.2).2]
    exact h.2.1
theorem W_later (w : LW oX gD gE SX SM) (mX : dg_sm shX WF WA SX S1) (mM : dg_sm shM WF' WA' SM S2) (c : ckL WF WA WF' WA') (eX : S1 = (F_d_later oX SX a1 a2 a3).1 ∧ rX' = (F_d_later oX SX a1 a2 a3).2) (eM : S2 = (F_m_later oM SM a1 a2 a3).1 ∧ rM' = (F_m_later oM SM a1 a2 a3).2) : rX' = rM' ∧ LW oX gD gE S1 S2 := by
  obtain ⟨e1, e2⟩ := eX
  obtain ⟨e3, e4⟩ := eM
  subst e1 e3
  refine ⟨?_, w.look mX mM c (fun g G K A L U x F h => (sim_later h.1.1 h.2.1.1 h.2.1.2).2) (fun g x h => ?_)⟩
  · rw [e2, e4]
    rcases w.2.2.2.2 with ⟨g, G, K, A, L, U, x, F, h⟩ | ⟨g, x, h⟩
    · exact (sim_later h.1.1 h.2.1.1 h.2.1.2).1
    · rw [(sim0_later (oM := oM) h.2.1.1 h.2.1.2).1, (sim0_later (oM := oM) h.2.1.1 h.2.1.2).2]
  · rw [(sim0_later (oM := oM) h.2.1.1 h.2.1.2).1, (sim0_later (oM := oM) h.2.1.1 h.2.1.2).2]
    exact h.2.1
theorem W_opens (w : LW oX gD gE SX SM) (mX : dg_sm shX WF WA SX S1) (mM : dg_sm shM WF' WA' SM S2) (c : ckL WF WA WF' WA') (eX : S1 = (F_d_opens oX SX a1 a2).1 ∧ rX' = (F_d_opens oX SX a1 a2).2) (eM : S2 = (F_m_opens oM SM a1 a2).1 ∧ rM' = (F_m_opens oM SM a1 a2).2) : rX' = rM' ∧ LW oX gD gE S1 S2 := by
  obtain ⟨e1, e2⟩ := eX
  obtain ⟨e3, e4⟩ := eM
  subst e1 e3
  refine ⟨?_, w.look mX mM c (fun g G K A L U x F h => (sim_opens h.1.1 h.2.1.1 h.2.1.2).2) (fun g x h => ?_)⟩
  · rw [e2, e4]
    rcases w.2.2.2.2 with ⟨g, G, K, A, L, U, x, F, h⟩ | ⟨g, x, h⟩
    · exact (sim_opens h.1.1 h.2.1.1 h.2.1.2).1
    · rw [(sim0_opens (oM := oM) h.2.1.1 h.2.1.2).1, (sim0_opens (oM := oM) h.2.1.1 h.2.1.2).2]
  · rw [(sim0_opens (oM := oM) h.2.1.1 h.2.1.2).1, (sim0_opens (oM := oM) h.2.1.1 h.2.1.2).2]
    exact h.2.1
theorem W_worth (w : LW oX gD gE SX SM) (mX : dg_sm shX WF WA SX S1) (mM : dg_sm shM WF' WA' SM S2) (c : ckL WF WA WF' WA') (eX : S1 = (F_d_worth oX SX a1).1 ∧ rX' = (F_d_worth oX SX a1).2) (eM : S2 = (F_m_worth oM SM a1).1 ∧ rM' = (F_m_worth oM SM a1).2) : rX' = rM' ∧ LW oX gD gE S1 S2 := by
  obtain ⟨e1, e2⟩ := eX
  obtain ⟨e3, e4⟩ := eM
  subst e1 e3
  refine ⟨?_, w.look mX mM c (fun g G K A L U x F h => (sim_worth h.1.1 h.2.1.1 h.2.1.2).2) (fun g x h => ?_)⟩
  · rw [e2, e4]
    rcases w.2.2.2.2 with ⟨g, G, K, A, L, U, x, F, h⟩ | ⟨g, x, h⟩
    · exact (sim_worth h.1.1 h.2.1.1 h.2.1.2).1
    · rw [(sim0_worth (oM := oM) h.2.1.1 h.2.1.2).1, (sim0_worth (oM := oM) h.2.1.1 h.2.1.2).2]
  · rw [(sim0_worth (oM := oM) h.2.1.1 h.2.1.2).1, (sim0_worth (oM := oM) h.2.1.1 h.2.1.2).2]
    exact h.2.1
theorem W_odds (w : LW oX gD gE SX SM) (mX : dg_sm shX WF WA SX S1) (mM : dg_sm shM WF' WA' SM S2) (c : ckL WF WA WF' WA') (eX : S1 = (F_d_odds oX SX a1 a2).1 ∧ rX' = (F_d_odds oX SX a1 a2).2) (eM : S2 = (F_m_odds oM SM a1 a2).1 ∧ rM' = (F_m_odds oM SM a1 a2).2) : rX' = rM' ∧ LW oX gD gE S1 S2 := by
  obtain ⟨e1, e2⟩ := eX
  obtain ⟨e3, e4⟩ := eM
  subst e1 e3
  refine ⟨?_, w.look mX mM c (fun g G K A L U x F h => ⟨(sim_odds (oM := oM) h.1.1 h.2.1.1 h.2.1.2).2.1, (sim_odds (oM := oM) h.1.1 h.2.1.1 h.2.1.2).2.2.2⟩) (fun g x h => ?_)⟩
  · rw [e2, e4]
    rcases w.2.2.2.2 with ⟨g, G, K, A, L, U, x, F, h⟩ | ⟨g, x, h⟩
    · exact (sim_odds h.1.1 h.2.1.1 h.2.1.2).1
    · rw [(sim0_odds (oM := oM) h.2.1.1 h.2.1.2).1, (sim0_odds (oM := oM) h.2.1.1 h.2.1.2).2]
  · rw [(sim0_odds (oM := oM) h.2.1.1 h.2.1.2).1, (sim0_odds (oM := oM) h.2.1.1 h.2.1.2).2]
    exact h.2.1
theorem W_reaches (w : LW oX gD gE SX SM) (mX : dg_sm shX WF WA SX S1) (mM : dg_sm shM WF' WA' SM S2) (c : ckL WF WA WF' WA') (eX : S1 = (F_d_reaches oX SX).1 ∧ rX' = (F_d_reaches oX SX).2) (eM : S2 = (F_m_reaches oM SM).1 ∧ rM' = (F_m_reaches oM SM).2) : rX' = rM' ∧ LW oX gD gE S1 S2 := by
  obtain ⟨e1, e2⟩ := eX
  obtain ⟨e3, e4⟩ := eM
  subst e1 e3
  refine ⟨?_, w.look mX mM c (fun g G K A L U x F h => ⟨(sim_reaches (oM := oM) h.1.1 h.1.2.2 h.2.1.1 h.2.2.1.1 h.2.1.2 h.2.2.1.2).2.1, (sim_reaches (oM := oM) h.1.1 h.1.2.2 h.2.1.1 h.2.2.1.1 h.2.1.2 h.2.2.1.2).2.2.2.1⟩) (fun g x h => ?_)⟩
  · rw [e2, e4]
    rcases w.2.2.2.2 with ⟨g, G, K, A, L, U, x, F, h⟩ | ⟨g, x, h⟩
    · exact (sim_reaches h.1.1 h.1.2.2 h.2.1.1 h.2.2.1.1 h.2.1.2 h.2.2.1.2).1
    · rw [(sim0_reaches (oM := oM) h.2.1.1 h.2.1.2).1, (sim0_reaches (oM := oM) h.2.1.1 h.2.1.2).2]
  · rw [(sim0_reaches (oM := oM) h.2.1.1 h.2.1.2).1, (sim0_reaches (oM := oM) h.2.1.1 h.2.1.2).2]
    exact h.2.1
theorem W_has (w : LW oX gD gE SX SM) (mX : dg_sm shX WF WA SX S1) (mM : dg_sm shM WF' WA' SM S2) (c : ckL WF WA WF' WA') (eX : S1 = (F_d_has oX SX a1).1 ∧ rX' = (F_d_has oX SX a1).2) (eM : S2 = (F_m_has oM SM a1).1 ∧ rM' = (F_m_has oM SM a1).2) : rX' = rM' ∧ LW oX gD gE S1 S2 := by
  obtain ⟨e1, e2⟩ := eX
  obtain ⟨e3, e4⟩ := eM
  subst e1 e3
  refine ⟨?_, w.look mX mM c (fun g G K A L U x F h => (sim_has h.1.1 h.2.1.1 h.2.2.1.1 h.2.1.2 h.2.2.1.2).2) (fun g x h => ?_)⟩
  · rw [e2, e4]
    rcases w.2.2.2.2 with ⟨g, G, K, A, L, U, x, F, h⟩ | ⟨g, x, h⟩
    · exact (sim_has h.1.1 h.2.1.1 h.2.2.1.1 h.2.1.2 h.2.2.1.2).1
    · exact (sim0_has (oM := oM) h.2.1.1 h.2.1.2 h.2.2).1
  · obtain ⟨-, z1, z2⟩ := sim0_has (a1 := a1) h.2.1.1 h.2.1.2 h.2.2
    rw [z1]
    exact ⟨h.2.1.1, h.2.1.2.keep z2⟩
theorem W_shade (w : LW oX gD gE SX SM) (mX : dg_sm shX WF WA SX S1) (mM : dg_sm shM WF' WA' SM S2) (c : ckC WF WA WF' WA') (eX : S1 = (F_d_shade oX SX a1 a2).1 ∧ rX' = (F_d_shade oX SX a1 a2).2) (eM : S2 = (F_m_shade oM SM a1 a2).1 ∧ rM' = (F_m_shade oM SM a1 a2).2) : rX' = rM' ∧ LW oX gD gE S1 S2 := by
  obtain ⟨e1, e2⟩ := eX
  obtain ⟨e3, e4⟩ := eM
  subst e1 e3
  obtain ⟨c1, c2, c4⟩ := c
  refine ⟨?_, w.mk mX mM c1 (w.2.1.sm mX mM c2) ?_⟩
  · rw [e2, e4]
    rcases w.2.2.2.2 with ⟨g, G, K, A, L, U, x, F, h⟩ | ⟨g, x, h⟩
    · exact (sim_shade h.1.1 h.2.1.1 h.2.2.2.1 h.2.1.2).1
    · rw [(sim0_shade (oM := oM) h.2.1.1 h.2.1.2).1, (sim0_shade (oM := oM) h.2.1.1 h.2.1.2).2]
  · rcases w.2.2.2.2 with ⟨g, G, K, A, L, U, x, F, h⟩ | ⟨g, x, h⟩
    · obtain ⟨-, r1, cs, k, r2⟩ := sim_shade (oM := oM) (a1 := a1) (a2 := a2) h.1.1 h.2.1.1 h.2.2.2.1 h.2.1.2
      exact Or.inl ⟨g, G, K, A, L, U, x, F, h.1, ⟨r1, r2⟩, fe_sm mX mM c4 h.2.2.1, cs, h.2.2.2.2.1.f (fun b hb => k.1 b (by omega) (by omega) (by omega)), h.2.2.2.2.2.f (fun b _ => k.2.1 b)⟩
    · rw [(sim0_shade (oM := oM) h.2.1.1 h.2.1.2).1, (sim0_shade (oM := oM) h.2.1.1 h.2.1.2).2]
      exact Or.inr ⟨g, x, h⟩
theorem W_change (w : LW oX gD gE SX SM) (mX : dg_sm shX WF WA SX S1) (mM : dg_sm shM WF' WA' SM S2) (c : ckC WF WA WF' WA') (eX : S1 = (F_d_change oX SX a1 a2).1 ∧ rX' = (F_d_change oX SX a1 a2).2) (eM : S2 = (F_m_change oM SM a1 a2).1 ∧ rM' = (F_m_change oM SM a1 a2).2) : rX' = rM' ∧ LW oX gD gE S1 S2 := by
  obtain ⟨e1, e2⟩ := eX
  obtain ⟨e3, e4⟩ := eM
  subst e1 e3
  obtain ⟨c1, c2, c4⟩ := c
  refine ⟨?_, w.mk mX mM c1 (w.2.1.sm mX mM c2) ?_⟩
  · rw [e2, e4]
    rcases w.2.2.2.2 with ⟨g, G, K, A, L, U, x, F, h⟩ | ⟨g, x, h⟩
    · exact (sim_change h.1.1 h.2.1.1 h.2.2.2.2.1 h.2.1.2).1
    · rw [(sim0_change (oM := oM) h.2.1.1 h.2.1.2).1, (sim0_change (oM := oM) h.2.1.1 h.2.1.2).2]
  · rcases w.2.2.2.2 with ⟨g, G, K, A, L, U, x, F, h⟩ | ⟨g, x, h⟩
    · obtain ⟨-, r1, cs, k, r2⟩ := sim_change (oM := oM) (a1 := a1) (a2 := a2) h.1.1 h.2.1.1 h.2.2.2.2.1 h.2.1.2
      exact Or.inl ⟨g, G, K, A, L, U, x, F, h.1, ⟨r1, r2⟩, fe_sm mX mM c4 h.2.2.1, h.2.2.2.1.f (fun b hb => k.1 b (by omega) (by omega) (by omega) (by omega)), cs, h.2.2.2.2.2.f (fun b _ => k.2.1 b)⟩
    · rw [(sim0_change (oM := oM) h.2.1.1 h.2.1.2).1, (sim0_change (oM := oM) h.2.1.1 h.2.1.2).2]
      exact Or.inr ⟨g, x, h⟩
theorem W_tells (w : LW oX gD gE SX SM) (mX : dg_sm shX WF WA SX S1) (mM : dg_sm shM WF' WA' SM S2) (c : ckC WF WA WF' WA') (eX : S1 = (F_d_tells oX SX a1).1 ∧ rX' = (F_d_tells oX SX a1).2) (eM : S2 = (F_m_tells oM SM a1).1 ∧ rM' = (F_m_tells oM SM a1).2) : rX' = rM' ∧ LW oX gD gE S1 S2 := by
  obtain ⟨e1, e2⟩ := eX
  obtain ⟨e3, e4⟩ := eM
  subst e1 e3
  obtain ⟨c1, c2, c4⟩ := c
  refine ⟨?_, w.mk mX mM c1 (w.2.1.sm mX mM c2) ?_⟩
  · rw [e2, e4]
    rcases w.2.2.2.2 with ⟨g, G, K, A, L, U, x, F, h⟩ | ⟨g, x, h⟩
    · exact (sim_tells h.1.1 h.1.2.2 h.2.1.1 h.2.2.1.1 h.2.2.2.2.2 h.2.1.2 h.2.2.1.2).1
    · rw [(sim0_tells (oM := oM) h.2.1.1 h.2.1.2).1, (sim0_tells (oM := oM) h.2.1.1 h.2.1.2).2]
  · rcases w.2.2.2.2 with ⟨g, G, K, A, L, U, x, F, h⟩ | ⟨g, x, h⟩
    · obtain ⟨-, r1, cs, k, r2, -⟩ := sim_tells (oM := oM) (a1 := a1) h.1.1 h.1.2.2 h.2.1.1 h.2.2.1.1 h.2.2.2.2.2 h.2.1.2 h.2.2.1.2
      exact Or.inl ⟨g, G, K, A, L, U, x, F, h.1, ⟨r1, r2⟩, fe_sm mX mM c4 h.2.2.1, h.2.2.2.1.f (fun b _ => k.1 b), h.2.2.2.2.1.f (fun b _ => k.1 b), cs⟩
    · rw [(sim0_tells (oM := oM) h.2.1.1 h.2.1.2).1, (sim0_tells (oM := oM) h.2.1.1 h.2.1.2).2]
      exact Or.inr ⟨g, x, h⟩
theorem E_hurt (w : LW oX gD gE SX SM) (eX : rX' = F_d_hurt oX SX a1) (eM : rM' = F_m_hurt oM SM a1) : rX' = rM' := by
  rw [eX, eM]
  rcases w.2.2.2.2 with ⟨g, G, K, A, L, U, x, F, h⟩ | ⟨g, x, h⟩
  · exact sim_hurt h.1.1 h.2.1.1 h.2.1.2
  · rw [(sim0_hurt (oM := oM) h.2.1.1 h.2.1.2).1, (sim0_hurt (oM := oM) h.2.1.1 h.2.1.2).2]
theorem E_plan (w : LW oX gD gE SX SM) (eX : rX' = F_d_plan oX SX a1 a2) (eM : rM' = F_m_plan oM SM a1 a2) : rX' = rM' := by
  rw [eX, eM]
  rcases w.2.2.2.2 with ⟨g, G, K, A, L, U, x, F, h⟩ | ⟨g, x, h⟩
  · exact sim_plan h.1.1 h.2.1.1 h.2.1.2
  · rw [(sim0_plan (oM := oM) h.2.1.1 h.2.1.2).1, (sim0_plan (oM := oM) h.2.1.1 h.2.1.2).2]
theorem E_order (w : LW oX gD gE SX SM) (eX : rX' = F_d_order oX SX a1 a2) (eM : rM' = F_m_order oM SM a1 a2) : rX' = rM' := by
  rw [eX, eM]
  rcases w.2.2.2.2 with ⟨g, G, K, A, L, U, x, F, h⟩ | ⟨g, x, h⟩
  · exact sim_order h.1.1 h.2.1.1 h.2.1.2
  · rw [(sim0_order (oM := oM) h.2.1.1 h.2.1.2).1, (sim0_order (oM := oM) h.2.1.1 h.2.1.2).2]
theorem E_tubs (w : LW oX gD gE SX SM) (eX : rX' = F_d_tubs oX SX a1) (eM : rM' = F_m_tubs oM SM a1) : rX' = rM' := by
  rw [eX, eM]
  rcases w.2.2.2.2 with ⟨g, G, K, A, L, U, x, F, h⟩ | ⟨g, x, h⟩
  · exact sim_tubs h.2.1.1 h.2.1.2
  · exact sim0_tubs h.2.1.1 h.2.1.2
theorem E_kept (w : LW oX gD gE SX SM) (eX : rX' = F_d_kept oX SX a1 a2) (eM : rM' = F_m_kept oM SM a1 a2) : rX' = rM' := by
  rw [eX, eM]
  rcases w.2.2.2.2 with ⟨g, G, K, A, L, U, x, F, h⟩ | ⟨g, x, h⟩
  · exact sim_kept h.2.1.1 h.2.1.2
  · rw [(sim0_kept (oM := oM) h.2.1.1 h.2.1.2).1, (sim0_kept (oM := oM) h.2.1.1 h.2.1.2).2]
theorem E_sale (w : LW oX gD gE SX SM) (eX : rX' = F_d_sale oX SX a1) (eM : rM' = F_m_sale oM SM a1) : rX' = rM' := by
  rw [eX, eM]
  rcases w.2.2.2.2 with ⟨g, G, K, A, L, U, x, F, h⟩ | ⟨g, x, h⟩
  · exact sim_sale h.1.1 h.2.1.1 h.2.1.2
  · exact sim0_sale h.2.1.1 h.2.1.2
theorem E_octet (w : LW oX gD gE SX SM) (eX : rX' = F_d_octet oX SX a1) (eM : rM' = F_m_octet oM SM a1) : rX' = rM' := by
  rw [eX, eM]
  obtain ⟨n, h1, h2, h3, h4⟩ := w.2.2.1
  exact sim_octet h1 h2 h3 h4
theorem E_status (w : LW oX gD gE SX SM) (eX : rX' = F_d_status oX SX a1) (eM : rM' = F_m_status oM SM a1) : rX' = rM' := by
  have z0 : (0 : Int32).toInt = 0 := by decide +kernel
  have z5 : (5 : Int32).toInt = 5 := by decide +kernel
  have z6 : (6 : Int32).toInt = 6 := by decide +kernel
  rw [eX, eM]
  by_cases q1 : a1 < (0 : Int32)
  · rw [F_d_status_p0 q1, F_m_status_p0 rfl (F_m_is_p0 q1)]
  have d1 : ¬ a1.toInt < (0 : Int32).toInt := fun z => q1 (w_lt.mpr z)
  by_cases q2 : (6 : Int32) ≤ a1
  · have d2 := w_le.mp q2
    rw [F_d_status_p1 q1 q2, F_m_status_p0 rfl (F_m_is_p1 q1 (w_lt.mpr (by omega)))]
  have d2 : ¬ (6 : Int32).toInt ≤ a1.toInt := fun z => q2 (w_le.mpr z)
  have n1 : ¬ (1 : Int32) = (0 : Int32) := by decide
  have e : F_m_is oM SM a1 0 5 = 1 := F_m_is_p2 q1 (fun z => by have := w_lt.mp z; omega)
  rw [F_d_status_p2 q1 q2 rfl, F_m_status_p1 rfl (by rw [e]; exact n1) rfl]
  exact w.2.1 _ (by rw [dk_clN]; omega)
end LB
end
section
/-! the law: what is refused, what is not -/
section LB2
variable {oX oM g n : Nat} {G A : aR} {K : Nat → List Int} {L : s_L} {U : s_U} {SX SM : dg_S} {x : Int} {a1 : Int32}
theorem acc_shifts (ok : s_ok G K A U) (hX : RX oX g G K A L U x SX) (hM : RM G K A L U x SM) : ((F_d_shifts oX SX a1).1 = r_X 2 SX ∧ (F_m_shifts oM SM a1).1 = r_M 2 SM) ∨ (0 ≤ (F_d_shifts oX SX a1).2.toInt ∧ 0 ≤ (F_m_shifts oM SM a1).2.toInt) := by
  have z1 : (1 : Int32).toInt = 1 := by decide +kernel
  have z40 : (40 : Int32).toInt = 40 := by decide +kernel
  have zk : (2 : Int32).toInt = ((2 : Nat) : Int) := by decide +kernel
  have cX := cx_come (o := oX) (a1 := 1) (a2 := a1) (a3 := 40) hX.2.1 hX.1 ok.1.1 ok.2.2.1.1 hX.2.2.1 (by decide +kernel) (by decide +kernel)
  have cM := mx_come (o := oM) (a1 := a1) (a2 := 1) (a3 := 40) hM.1.1.1 hM.2.1 ok.2.2.1.1 (by decide +kernel) (by decide +kernel)
  rw [z1, z40] at cX cM
  by_cases q : 1 ≤ a1.toInt ∧ a1.toInt ≤ 40 ∧ A 0 0 + a1.toInt ≤ 999
  · obtain ⟨n, hn⟩ : ∃ n : Nat, a1.toInt = n := ⟨a1.toInt.toNat, by omega⟩
    obtain ⟨S1, y, e1, y1, r1⟩ := cx_shifts (o := oX) ok hX hn (by omega) (by omega) (by omega)
    obtain ⟨S2, w, e2, w2, r2⟩ := mx_shifts (o := oM) ok hM hn (by omega) (by omega) (by omega)
    have b : (0 : Int) ≤ (s_go G K (G 0 3) n (A, L, 0)).2.2 := (s_go_n (G := G) (K := K) (r := G 0 3) (A := A) (q := (L, 0)) n).1
    rw [e1, e2]
    exact Or.inr ⟨by show 0 ≤ y.toInt; rw [y1]; exact b, by show 0 ≤ w.toInt; rw [w2]; exact b⟩
  · have e1 : F_d_shiftsCome oX SX (1 : Int32) a1 (40 : Int32) = 0 := by
      rcases cX with ⟨-, e⟩ | ⟨e, -⟩
      · exact absurd e q
      · exact e
    have e2 : F_m_isAhead oM SM a1 (1 : Int32) (40 : Int32) = 0 := by
      rcases cM with ⟨-, e⟩ | ⟨e, -⟩
      · exact absurd e q
      · exact e
    rw [F_d_shifts_p3 rfl e1 rfl rfl, F_m_shifts_p3 rfl e2 rfl rfl, none_r zk, ref_r zk]
    exact Or.inl ⟨rfl, rfl⟩
theorem acc_chance (ok : s_ok G K A U) (hx : 0 ≤ x ∧ x < 2147483648) (hX : RX oX g G K A L U x SX) (hM : RM G K A L U x SM) : ((F_d_chance oX SX a1).1 = r_X 2 SX ∧ (F_m_chance oM SM a1).1 = r_M 2 SM) ∨ (0 ≤ (F_d_chance oX SX a1).2.toInt ∧ 0 ≤ (F_m_chance oM SM a1).2.toInt) := by
  have z1 : (1 : Int32).toInt = 1 := by decide +kernel
  have z40 : (40 : Int32).toInt = 40 := by decide +kernel
  have zk : (2 : Int32).toInt = ((2 : Nat) : Int) := by decide +kernel
  have cX := cx_come (o := oX) (a1 := 1) (a2 := a1) (a3 := 40) hX.2.1 hX.1 ok.1.1 ok.2.2.1.1 hX.2.2.1 (by decide +kernel) (by decide +kernel)
  have cM := mx_come (o := oM) (a1 := a1) (a2 := 1) (a3 := 40) hM.1.1.1 hM.2.1 ok.2.2.1.1 (by decide +kernel) (by decide +kernel)
  rw [z1, z40] at cX cM
  by_cases q : 1 ≤ a1.toInt ∧ a1.toInt ≤ 40 ∧ A 0 0 + a1.toInt ≤ 999
  · obtain ⟨n, hn⟩ : ∃ n : Nat, a1.toInt = n := ⟨a1.toInt.toNat, by omega⟩
    obtain ⟨S1, y, e1, y1, r1⟩ := cx_chance (o := oX) ok hx hX hn (by omega) (by omega) (by omega)
    obtain ⟨S2, w, e2, w2, r2⟩ := mx_chance (o := oM) ok hx hM hn (by omega) (by omega) (by omega)
    have b := (s_ch_ok (K := K) (r := G 0 3) (L := L) ok.1.1 ok.2.2.1.1 ok.2.2.1.2 hx n).2.2.1
    rw [e1, e2]
    exact Or.inr ⟨by show 0 ≤ y.toInt; rw [y1]; exact b, by show 0 ≤ w.toInt; rw [w2]; exact b⟩
  · have e1 : F_d_shiftsCome oX SX (1 : Int32) a1 (40 : Int32) = 0 := by
      rcases cX with ⟨-, e⟩ | ⟨e, -⟩
      · exact absurd e q
      · exact e
    have e2 : F_m_isAhead oM SM a1 (1 : Int32) (40 : Int32) = 0 := by
      rcases cM with ⟨-, e⟩ | ⟨e, -⟩
      · exact absurd e q
      · exact e
    rw [F_d_chance_p3 rfl e1 rfl rfl, F_m_chance_p6 rfl e2 rfl rfl, none_r zk, ref_r zk]
    exact Or.inl ⟨rfl, rfl⟩
theorem acc_sell (ok : s_ok G K A U) (hX : RX oX g G K A L U x SX) (hM : RM G K A L U x SM) : ((F_d_sell oX SX a1).1 = r_X 3 SX ∧ (F_m_sell oM SM a1).1 = r_M 3 SM) ∨ (0 ≤ (F_d_sell oX SX a1).2.toInt ∧ 0 ≤ (F_m_sell oM SM a1).2.toInt) := by
  have zk : (3 : Int32).toInt = ((3 : Nat) : Int) := by decide +kernel
  have hA := ok.2.2.1.1.2.1.1
  rcases cx_sell (o := oX) (a1 := a1) ok hX with ⟨p, S1, y1, e1, v1, -⟩ | ⟨p, S1, s1, e1, -⟩ <;> rcases mx_sell (o := oM) (a1 := a1) ok hM with ⟨q, S2, y2, e2, v2, -⟩ | ⟨q, S2, s2, e2, -⟩
  · have b := (ok.1.2.2.2.2.2.2.2 a1.toInt.toNat (by have := p.1; omega)).2.2.1
    rw [e1, e2]
    exact Or.inr ⟨by show 0 ≤ y1.toInt; omega, by show 0 ≤ y2.toInt; omega⟩
  · exact absurd p q
  · exact absurd q p
  · rw [e1, e2]
    exact Or.inl ⟨by show S1 = _; rw [s1, none_r zk], by show S2 = _; rw [s2, ref_r zk]⟩
end LB2
end
section
/-! the law: acts -/
section LC
variable {o oX oM g gD gE n k i : Nat} {WF WF' : List (Nat × Nat)} {WA WA' : List Nat} {S S0 S1 S2 SX SM : dg_S} {G A : aR} {K : Nat → List Int} {L : s_L} {U : s_U} {F : s_F} {x : Int} {a a1 a2 a3 a4 rX' rM' : Int32} {B : Nat → Int}
theorem LW.act (w : LW oX gD gE SX SM) (mX : dg_sm shX WF WA SX S1) (mM : dg_sm shM WF' WA' SM S2) (cB : ckB WF WA WF' WA') (cF : ckF WF WA WF' WA') (hk : k < 6) (p : (S1 = r_X k SX ∧ S2 = r_M k SM) ∨ ((zI S1 221 2).toInt = 0 ∧ (zI S1 221 3).toInt = 0 ∧ (zI S1 229 4).toInt = 0 ∧ S1.2.1 184 = SX.2.1 184 ∧ S2.2.1 28 = SM.2.1 28)) (hy : ∀ g G K A L U x F, LSy oX g G K A L U x F SX SM → ∃ (A' : aR) (L' : s_L) (U' : s_U) (x' : Int), s_ok G K A' U' ∧ (0 ≤ x' ∧ x' < 2147483648) ∧ RX oX g G K A' L' U' x' S1 ∧ RM G K A' L' U' x' S2) (hn : ∀ g x, LSn oX g x SX SM → S1 = r_X k SX ∧ S2 = r_M k SM) : LW oX gD gE S1 S2 := by
  rcases p with ⟨p1, p2⟩ | ⟨p1, p2, p3, p4, p5⟩
  · subst p1 p2
    exact w.mk mX mM cB (w.2.1.no hk) w.2.2.2.2.no
  · refine w.mk mX mM cB (w.2.1.eq p4 p5) ?_
    rcases w.2.2.2.2 with ⟨g, G, K, A, L, U, x, F, h⟩ | ⟨g, x, h⟩
    · obtain ⟨A', L', U', x', ok, hx, r1, r2⟩ := hy g G K A L U x F h
      exact Or.inl ⟨g, G, K, A', L', U', x', F, ⟨ok, hx, h.1.2.2⟩, ⟨r1, r2⟩, fe_sm mX mM cF h.2.2.1, Or.inl p1, Or.inl p2, Or.inl p3⟩
    · obtain ⟨e1, e2⟩ := hn g x h
      rw [e1, e2]
      exact Or.inr ⟨g, x, h.no⟩
theorem W_shifts (w : LW oX gD gE SX SM) (mX : dg_sm shX WF WA SX S1) (mM : dg_sm shM WF' WA' SM S2) (cB : ckB WF WA WF' WA') (cF : ckF WF WA WF' WA') (pX : m_hid ((S1 = (F_d_none oX SX (2 : Int32)).1 ∧ rX'.toInt = -1) ∨ ((zI S1 221 2).toInt = 0 ∧ (zI S1 221 3).toInt = 0 ∧ (zI S1 229 4).toInt = 0 ∧ S1.2.1 184 = SX.2.1 184))) (pM : m_hid ((S2 = (F_m_refuses oM SM (2 : Int32)).1 ∧ rM'.toInt = -1) ∨ S2.2.1 28 = SM.2.1 28)) (eX : S1 = (F_d_shifts oX SX a1).1 ∧ rX' = (F_d_shifts oX SX a1).2) (eM : S2 = (F_m_shifts oM SM a1).1 ∧ rM' = (F_m_shifts oM SM a1).2) : rX' = rM' ∧ LW oX gD gE S1 S2 := by
  obtain ⟨e1, e2⟩ := eX
  obtain ⟨e3, e4⟩ := eM
  have zk : (2 : Int32).toInt = ((2 : Nat) : Int) := by decide +kernel
  have eq : rX' = rM' := by
    rw [e2, e4]
    rcases w.2.2.2.2 with ⟨g, G, K, A, L, U, x, F, h⟩ | ⟨g, x, h⟩
    · obtain ⟨A', L', U', e, ok, r1, r2⟩ := sim_shifts (oM := oM) (a1 := a1) h.1.1 h.2.1.1 h.2.1.2
      exact e
    · rw [(sim0_shifts (oM := oM) h.2.1.1 h.2.1.2).1, (sim0_shifts (oM := oM) h.2.1.1 h.2.1.2).2, none_r zk, ref_r zk]
  refine ⟨eq, w.act (k := 2) mX mM cB cF (by decide) ?_ (fun g G K A L U x F h => ?_) (fun g x h => ?_)⟩
  · rcases w.2.2.2.2 with ⟨g, G, K, A, L, U, x, F, h⟩ | ⟨g, x, h⟩
    · rcases acc_shifts (oM := oM) (a1 := a1) h.1.1 h.2.1.1 h.2.1.2 with ⟨y1, y2⟩ | ⟨y1, y2⟩
      · exact Or.inl ⟨by rw [e1, y1], by rw [e3, y2]⟩
      · rw [← e2] at y1
        rw [← e4] at y2
        rcases pX.out with ⟨-, z1⟩ | ⟨z5, z6, z7, z8⟩
        · omega
        rcases pM.out with ⟨-, z1⟩ | z2
        · omega
        exact Or.inr ⟨z5, z6, z7, z8, z2⟩
    · rw [e1, e3, (sim0_shifts (oM := oM) h.2.1.1 h.2.1.2).1, (sim0_shifts (oM := oM) h.2.1.1 h.2.1.2).2, none_r zk, ref_r zk]
      exact Or.inl ⟨rfl, rfl⟩
  · rw [e1, e3]
    obtain ⟨A', L', U', e, ok, r1, r2⟩ := sim_shifts (oM := oM) (a1 := a1) h.1.1 h.2.1.1 h.2.1.2
    exact ⟨A', L', U', x, ok, h.1.2.1, r1, r2⟩
  · rw [e1, e3, (sim0_shifts (oM := oM) h.2.1.1 h.2.1.2).1, (sim0_shifts (oM := oM) h.2.1.1 h.2.1.2).2, none_r zk, ref_r zk]
    exact ⟨rfl, rfl⟩
theorem W_chance (w : LW oX gD gE SX SM) (mX : dg_sm shX WF WA SX S1) (mM : dg_sm shM WF' WA' SM S2) (cB : ckB WF WA WF' WA') (cF : ckF WF WA WF' WA') (pX : m_hid ((S1 = (F_d_none oX SX (2 : Int32)).1 ∧ rX'.toInt = -1) ∨ ((zI S1 221 2).toInt = 0 ∧ (zI S1 221 3).toInt = 0 ∧ (zI S1 229 4).toInt = 0 ∧ S1.2.1 184 = SX.2.1 184))) (pM : m_hid ((S2 = (F_m_refuses oM SM (2 : Int32)).1 ∧ rM'.toInt = -1) ∨ S2.2.1 28 = SM.2.1 28)) (eX : S1 = (F_d_chance oX SX a1).1 ∧ rX' = (F_d_chance oX SX a1).2) (eM : S2 = (F_m_chance oM SM a1).1 ∧ rM' = (F_m_chance oM SM a1).2) : rX' = rM' ∧ LW oX gD gE S1 S2 := by
  obtain ⟨e1, e2⟩ := eX
  obtain ⟨e3, e4⟩ := eM
  have zk : (2 : Int32).toInt = ((2 : Nat) : Int) := by decide +kernel
  have eq : rX' = rM' := by
    rw [e2, e4]
    rcases w.2.2.2.2 with ⟨g, G, K, A, L, U, x, F, h⟩ | ⟨g, x, h⟩
    · obtain ⟨A', L', U', x', e, ok, hx, r1, r2⟩ := sim_chance (oM := oM) (a1 := a1) h.1.1 h.1.2.1 h.2.1.1 h.2.1.2
      exact e
    · rw [(sim0_chance (oM := oM) h.2.1.1 h.2.1.2).1, (sim0_chance (oM := oM) h.2.1.1 h.2.1.2).2, none_r zk, ref_r zk]
  refine ⟨eq, w.act (k := 2) mX mM cB cF (by decide) ?_ (fun g G K A L U x F h => ?_) (fun g x h => ?_)⟩
  · rcases w.2.2.2.2 with ⟨g, G, K, A, L, U, x, F, h⟩ | ⟨g, x, h⟩
    · rcases acc_chance (oM := oM) (a1 := a1) h.1.1 h.1.2.1 h.2.1.1 h.2.1.2 with ⟨y1, y2⟩ | ⟨y1, y2⟩
      · exact Or.inl ⟨by rw [e1, y1], by rw [e3, y2]⟩
      · rw [← e2] at y1
        rw [← e4] at y2
        rcases pX.out with ⟨-, z1⟩ | ⟨z5, z6, z7, z8⟩
        · omega
        rcases pM.out with ⟨-, z1⟩ | z2
        · omega
        exact Or.inr ⟨z5, z6, z7, z8, z2⟩
    · rw [e1, e3, (sim0_chance (oM := oM) h.2.1.1 h.2.1.2).1, (sim0_chance (oM := oM) h.2.1.1 h.2.1.2).2, none_r zk, ref_r zk]
      exact Or.inl ⟨rfl, rfl⟩
  · rw [e1, e3]
    obtain ⟨A', L', U', x', e, ok, hx, r1, r2⟩ := sim_chance (oM := oM) (a1 := a1) h.1.1 h.1.2.1 h.2.1.1 h.2.1.2
    exact ⟨A', L', U', x', ok, hx, r1, r2⟩
  · rw [e1, e3, (sim0_chance (oM := oM) h.2.1.1 h.2.1.2).1, (sim0_chance (oM := oM) h.2.1.1 h.2.1.2).2, none_r zk, ref_r zk]
    exact ⟨rfl, rfl⟩
theorem W_hang (w : LW oX gD gE SX SM) (mX : dg_sm shX WF WA SX S1) (mM : dg_sm shM WF' WA' SM S2) (cB : ckB WF WA WF' WA') (cF : ckF WF WA WF' WA') (pX : m_hid ((S1 = (F_d_no oX SX (3 : Int32)).1 ∧ rX'.toInt = 0) ∨ ((zI S1 221 2).toInt = 0 ∧ (zI S1 221 3).toInt = 0 ∧ (zI S1 229 4).toInt = 0 ∧ S1.2.1 184 = SX.2.1 184 ∧ rX'.toInt ≠ 0))) (pM : m_hid ((S2 = (F_m_refuses oM SM (3 : Int32)).1 ∧ rM'.toInt = 0) ∨ (S2.2.1 28 = SM.2.1 28 ∧ rM'.toInt ≠ 0))) (eX : S1 = (F_d_hang oX SX a1 a2 a3).1 ∧ rX' = (F_d_hang oX SX a1 a2 a3).2) (eM : S2 = (F_m_hang oM SM a1 a2 a3).1 ∧ rM' = (F_m_hang oM SM a1 a2 a3).2) : rX' = rM' ∧ LW oX gD gE S1 S2 := by
  obtain ⟨e1, e2⟩ := eX
  obtain ⟨e3, e4⟩ := eM
  have zk : (3 : Int32).toInt = ((3 : Nat) : Int) := by decide +kernel
  have eq : rX' = rM' := by
    rw [e2, e4]
    rcases w.2.2.2.2 with ⟨g, G, K, A, L, U, x, F, h⟩ | ⟨g, x, h⟩
    · obtain ⟨A', U', e, ok, r1, r2⟩ := sim_hang (oM := oM) (a1 := a1) (a2 := a2) (a3 := a3) h.1.1 h.2.1.1 h.2.1.2
      exact e
    · rw [(sim0_hang (oM := oM) h.2.1.1 h.2.1.2).1, (sim0_hang (oM := oM) h.2.1.1 h.2.1.2).2, no_r zk, ref_r zk]
  refine ⟨eq, w.act (k := 3) mX mM cB cF (by decide) ?_ (fun g G K A L U x F h => ?_) (fun g x h => ?_)⟩
  · rcases pX.out with ⟨z0, z1⟩ | ⟨z5, z6, z7, z8, z9⟩ <;> rcases pM.out with ⟨z2, z3⟩ | ⟨z2, z3⟩
    · exact Or.inl ⟨by rw [z0, no_r zk], by rw [z2, ref_r zk]⟩
    · exact absurd (by rw [← eq]; exact z1) z3
    · exact absurd (by rw [eq]; exact z3) z9
    · exact Or.inr ⟨z5, z6, z7, z8, z2⟩
  · rw [e1, e3]
    obtain ⟨A', U', e, ok, r1, r2⟩ := sim_hang (oM := oM) (a1 := a1) (a2 := a2) (a3 := a3) h.1.1 h.2.1.1 h.2.1.2
    exact ⟨A', L, U', x, ok, h.1.2.1, r1, r2⟩
  · rw [e1, e3, (sim0_hang (oM := oM) h.2.1.1 h.2.1.2).1, (sim0_hang (oM := oM) h.2.1.1 h.2.1.2).2, no_r zk, ref_r zk]
    exact ⟨rfl, rfl⟩
theorem W_send (w : LW oX gD gE SX SM) (mX : dg_sm shX WF WA SX S1) (mM : dg_sm shM WF' WA' SM S2) (cB : ckB WF WA WF' WA') (cF : ckF WF WA WF' WA') (pX : m_hid ((S1 = (F_d_no oX SX (3 : Int32)).1 ∧ rX'.toInt = 0) ∨ ((zI S1 221 2).toInt = 0 ∧ (zI S1 221 3).toInt = 0 ∧ (zI S1 229 4).toInt = 0 ∧ S1.2.1 184 = SX.2.1 184 ∧ rX'.toInt ≠ 0))) (pM : m_hid ((S2 = (F_m_refuses oM SM (3 : Int32)).1 ∧ rM'.toInt = 0) ∨ (S2.2.1 28 = SM.2.1 28 ∧ rM'.toInt ≠ 0))) (eX : S1 = (F_d_send oX SX a1 a2 a3 a4).1 ∧ rX' = (F_d_send oX SX a1 a2 a3 a4).2) (eM : S2 = (F_m_send oM SM a1 a2 a3 a4).1 ∧ rM' = (F_m_send oM SM a1 a2 a3 a4).2) : rX' = rM' ∧ LW oX gD gE S1 S2 := by
  obtain ⟨e1, e2⟩ := eX
  obtain ⟨e3, e4⟩ := eM
  have zk : (3 : Int32).toInt = ((3 : Nat) : Int) := by decide +kernel
  have eq : rX' = rM' := by
    rw [e2, e4]
    rcases w.2.2.2.2 with ⟨g, G, K, A, L, U, x, F, h⟩ | ⟨g, x, h⟩
    · obtain ⟨A', U', e, ok, r1, r2⟩ := sim_send (oM := oM) (a1 := a1) (a2 := a2) (a3 := a3) (a4 := a4) h.1.1 h.2.1.1 h.2.1.2
      exact e
    · rw [(sim0_send (oM := oM) h.2.1.1 h.2.1.2).1, (sim0_send (oM := oM) h.2.1.1 h.2.1.2).2, no_r zk, ref_r zk]
  refine ⟨eq, w.act (k := 3) mX mM cB cF (by decide) ?_ (fun g G K A L U x F h => ?_) (fun g x h => ?_)⟩
  · rcases pX.out with ⟨z0, z1⟩ | ⟨z5, z6, z7, z8, z9⟩ <;> rcases pM.out with ⟨z2, z3⟩ | ⟨z2, z3⟩
    · exact Or.inl ⟨by rw [z0, no_r zk], by rw [z2, ref_r zk]⟩
    · exact absurd (by rw [← eq]; exact z1) z3
    · exact absurd (by rw [eq]; exact z3) z9
    · exact Or.inr ⟨z5, z6, z7, z8, z2⟩
  · rw [e1, e3]
    obtain ⟨A', U', e, ok, r1, r2⟩ := sim_send (oM := oM) (a1 := a1) (a2 := a2) (a3 := a3) (a4 := a4) h.1.1 h.2.1.1 h.2.1.2
    exact ⟨A', L, U', x, ok, h.1.2.1, r1, r2⟩
  · rw [e1, e3, (sim0_send (oM := oM) h.2.1.1 h.2.1.2).1, (sim0_send (oM := oM) h.2.1.1 h.2.1.2).2, no_r zk, ref_r zk]
    exact ⟨rfl, rfl⟩
theorem W_heal (w : LW oX gD gE SX SM) (mX : dg_sm shX WF WA SX S1) (mM : dg_sm shM WF' WA' SM S2) (cB : ckB WF WA WF' WA') (cF : ckF WF WA WF' WA') (pX : m_hid ((S1 = (F_d_no oX SX (3 : Int32)).1 ∧ rX'.toInt = 0) ∨ ((zI S1 221 2).toInt = 0 ∧ (zI S1 221 3).toInt = 0 ∧ (zI S1 229 4).toInt = 0 ∧ S1.2.1 184 = SX.2.1 184 ∧ rX'.toInt ≠ 0))) (pM : m_hid ((S2 = (F_m_refuses oM SM (3 : Int32)).1 ∧ rM'.toInt = 0) ∨ (S2.2.1 28 = SM.2.1 28 ∧ rM'.toInt ≠ 0))) (eX : S1 = (F_d_heal oX SX a1).1 ∧ rX' = (F_d_heal oX SX a1).2) (eM : S2 = (F_m_heal oM SM a1).1 ∧ rM' = (F_m_heal oM SM a1).2) : rX' = rM' ∧ LW oX gD gE S1 S2 := by
  obtain ⟨e1, e2⟩ := eX
  obtain ⟨e3, e4⟩ := eM
  have zk : (3 : Int32).toInt = ((3 : Nat) : Int) := by decide +kernel
  have eq : rX' = rM' := by
    rw [e2, e4]
    rcases w.2.2.2.2 with ⟨g, G, K, A, L, U, x, F, h⟩ | ⟨g, x, h⟩
    · obtain ⟨A', U', e, ok, r1, r2⟩ := sim_heal (oM := oM) (a1 := a1) h.1.1 h.2.1.1 h.2.1.2
      exact e
    · rw [(sim0_heal (oM := oM) h.2.1.1 h.2.1.2).1, (sim0_heal (oM := oM) h.2.1.1 h.2.1.2).2, no_r zk, ref_r zk]
  refine ⟨eq, w.act (k := 3) mX mM cB cF (by decide) ?_ (fun g G K A L U x F h => ?_) (fun g x h => ?_)⟩
  · rcases pX.out with ⟨z0, z1⟩ | ⟨z5, z6, z7, z8, z9⟩ <;> rcases pM.out with ⟨z2, z3⟩ | ⟨z2, z3⟩
    · exact Or.inl ⟨by rw [z0, no_r zk], by rw [z2, ref_r zk]⟩
    · exact absurd (by rw [← eq]; exact z1) z3
    · exact absurd (by rw [eq]; exact z3) z9
    · exact Or.inr ⟨z5, z6, z7, z8, z2⟩
  · rw [e1, e3]
    obtain ⟨A', U', e, ok, r1, r2⟩ := sim_heal (oM := oM) (a1 := a1) h.1.1 h.2.1.1 h.2.1.2
    exact ⟨A', L, U', x, ok, h.1.2.1, r1, r2⟩
  · rw [e1, e3, (sim0_heal (oM := oM) h.2.1.1 h.2.1.2).1, (sim0_heal (oM := oM) h.2.1.1 h.2.1.2).2, no_r zk, ref_r zk]
    exact ⟨rfl, rfl⟩
theorem W_sell (w : LW oX gD gE SX SM) (mX : dg_sm shX WF WA SX S1) (mM : dg_sm shM WF' WA' SM S2) (cB : ckB WF WA WF' WA') (cF : ckF WF WA WF' WA') (pX : m_hid ((S1 = (F_d_none oX SX (3 : Int32)).1 ∧ rX'.toInt = -1) ∨ ((zI S1 221 2).toInt = 0 ∧ (zI S1 221 3).toInt = 0 ∧ (zI S1 229 4).toInt = 0 ∧ S1.2.1 184 = SX.2.1 184))) (pM : m_hid ((S2 = (F_m_refuses oM SM (3 : Int32)).1 ∧ rM'.toInt = -1) ∨ S2.2.1 28 = SM.2.1 28)) (eX : S1 = (F_d_sell oX SX a1).1 ∧ rX' = (F_d_sell oX SX a1).2) (eM : S2 = (F_m_sell oM SM a1).1 ∧ rM' = (F_m_sell oM SM a1).2) : rX' = rM' ∧ LW oX gD gE S1 S2 := by
  obtain ⟨e1, e2⟩ := eX
  obtain ⟨e3, e4⟩ := eM
  have zk : (3 : Int32).toInt = ((3 : Nat) : Int) := by decide +kernel
  have eq : rX' = rM' := by
    rw [e2, e4]
    rcases w.2.2.2.2 with ⟨g, G, K, A, L, U, x, F, h⟩ | ⟨g, x, h⟩
    · obtain ⟨A', U', e, ok, r1, r2⟩ := sim_sell (oM := oM) (a1 := a1) h.1.1 h.2.1.1 h.2.1.2
      exact e
    · rw [(sim0_sell (oM := oM) h.2.1.1 h.2.1.2).1, (sim0_sell (oM := oM) h.2.1.1 h.2.1.2).2, none_r zk, ref_r zk]
  refine ⟨eq, w.act (k := 3) mX mM cB cF (by decide) ?_ (fun g G K A L U x F h => ?_) (fun g x h => ?_)⟩
  · rcases w.2.2.2.2 with ⟨g, G, K, A, L, U, x, F, h⟩ | ⟨g, x, h⟩
    · rcases acc_sell (oM := oM) (a1 := a1) h.1.1 h.2.1.1 h.2.1.2 with ⟨y1, y2⟩ | ⟨y1, y2⟩
      · exact Or.inl ⟨by rw [e1, y1], by rw [e3, y2]⟩
      · rw [← e2] at y1
        rw [← e4] at y2
        rcases pX.out with ⟨-, z1⟩ | ⟨z5, z6, z7, z8⟩
        · omega
        rcases pM.out with ⟨-, z1⟩ | z2
        · omega
        exact Or.inr ⟨z5, z6, z7, z8, z2⟩
    · rw [e1, e3, (sim0_sell (oM := oM) h.2.1.1 h.2.1.2).1, (sim0_sell (oM := oM) h.2.1.1 h.2.1.2).2, none_r zk, ref_r zk]
      exact Or.inl ⟨rfl, rfl⟩
  · rw [e1, e3]
    obtain ⟨A', U', e, ok, r1, r2⟩ := sim_sell (oM := oM) (a1 := a1) h.1.1 h.2.1.1 h.2.1.2
    exact ⟨A', L, U', x, ok, h.1.2.1, r1, r2⟩
  · rw [e1, e3, (sim0_sell (oM := oM) h.2.1.1 h.2.1.2).1, (sim0_sell (oM := oM) h.2.1.1 h.2.1.2).2, none_r zk, ref_r zk]
    exact ⟨rfl, rfl⟩
theorem W_undo (w : LW oX gD gE SX SM) (mX : dg_sm shX WF WA SX S1) (mM : dg_sm shM WF' WA' SM S2) (cB : ckB WF WA WF' WA') (cF : ckF WF WA WF' WA') (pX : m_hid ((rX'.toInt = 0) ∨ ((zI S1 221 2).toInt = 0 ∧ (zI S1 221 3).toInt = 0 ∧ (zI S1 229 4).toInt = 0 ∧ S1.2.1 184 = SX.2.1 184 ∧ rX'.toInt ≠ 0))) (pM : m_hid ((S2 = (F_m_refuses oM SM (4 : Int32)).1 ∧ rM'.toInt = 0) ∨ (S2.2.1 28 = SM.2.1 28 ∧ rM'.toInt ≠ 0))) (eX : S1 = (F_d_undo oX SX).1 ∧ rX' = (F_d_undo oX SX).2) (eM : S2 = (F_m_undo oM SM).1 ∧ rM' = (F_m_undo oM SM).2) : rX' = rM' ∧ LW oX gD gE S1 S2 := by
  obtain ⟨e1, e2⟩ := eX
  obtain ⟨e3, e4⟩ := eM
  have zk : (4 : Int32).toInt = ((4 : Nat) : Int) := by decide +kernel
  have eq : rX' = rM' := by
    rw [e2, e4]
    rcases w.2.2.2.2 with ⟨g, G, K, A, L, U, x, F, h⟩ | ⟨g, x, h⟩
    · obtain ⟨A', L', U', e, ok, r1, r2⟩ := sim_undo (oM := oM) h.1.1 h.2.1.1 h.2.1.2
      exact e
    · rw [(sim0_undo (oM := oM) h.2.1.1 h.2.1.2).1, (sim0_undo (oM := oM) h.2.1.1 h.2.1.2).2, no_r zk, ref_r zk]
  have left : rX'.toInt = 0 → S1 = r_X 4 SX := fun z => by
    rw [e1]
    rcases w.2.2.2.2 with ⟨g, G, K, A, L, U, x, F, h⟩ | ⟨g, x, h⟩
    · by_cases q : U = []
      · subst q
        have q1 : zI SX 17 2 = (0 : Int32) := dk_eqp (by decide +kernel) h.2.1.1.2.2.2.2.1.1
        have t := F_h_takeBack_p2 (o := oX) (S := SX) (pt := 3) rfl q1
        rw [F_d_undo_p1 (S_2 := SX) (x_1 := 0) (by rw [t]) (by rw [t]) rfl rfl rfl, no_r zk]
      · exfalso
        obtain ⟨U0, ⟨A', L'⟩, hU⟩ : ∃ U0 e, U = U0 ++ [e] := ⟨U.dropLast, U.getLast q, (List.dropLast_concat_getLast q).symm⟩
        subst hU
        obtain ⟨S9, t, -⟩ := cx_back (o := oX) (p := 3) h.1.1.1.1.2.2.2 pX_3' (by decide) h.2.1.1.2.2.2.2.1
        rw [F_d_undo_p0 (S_2 := S9) (x_1 := 1) (by rw [t]) (by rw [t]) (by decide +kernel) rfl] at e2
        rw [e2] at z
        exact absurd z (show ¬ (1 : Int32).toInt = 0 by decide +kernel)
    · rw [(sim0_undo (oM := oM) h.2.1.1 h.2.1.2).1, no_r zk]
  refine ⟨eq, w.act (k := 4) mX mM cB cF (by decide) ?_ (fun g G K A L U x F h => ?_) (fun g x h => ?_)⟩
  · rcases pX.out with z1 | ⟨z5, z6, z7, z8, z9⟩ <;> rcases pM.out with ⟨z2, z3⟩ | ⟨z2, z3⟩
    · exact Or.inl ⟨left z1, by rw [z2, ref_r zk]⟩
    · exact absurd (by rw [← eq]; exact z1) z3
    · exact absurd (by rw [eq]; exact z3) z9
    · exact Or.inr ⟨z5, z6, z7, z8, z2⟩
  · rw [e1, e3]
    obtain ⟨A', L', U', e, ok, r1, r2⟩ := sim_undo (oM := oM) h.1.1 h.2.1.1 h.2.1.2
    exact ⟨A', L', U', x, ok, h.1.2.1, r1, r2⟩
  · rw [e1, e3, (sim0_undo (oM := oM) h.2.1.1 h.2.1.2).1, (sim0_undo (oM := oM) h.2.1.1 h.2.1.2).2, no_r zk, ref_r zk]
    exact ⟨rfl, rfl⟩
end LC
end
section
/-! the law: the tape; SEED; FEEL, ON, IMAGE -/
theorem w_ff (y : Int32) : 0 ≤ (y &&& 255).toInt ∧ (y &&& 255).toInt ≤ 255 := by
  obtain ⟨j, hj, e⟩ := pk_andE y (m := 255) 8 (by decide +kernel)
  rw [e, nI_toInt (by omega)]
  omega
/-- one byte more -/
def s_tb (B : Nat → Int) (n : Nat) (v : Int) : Nat → Int := fun i => if i = n then v else B i
section LD
variable {o oX oM g gD gE n k i : Nat} {WF WF' : List (Nat × Nat)} {WA WA' : List Nat} {S S0 S1 S2 SX SM T : dg_S} {G A : aR} {K : Nat → List Int} {L : s_L} {U : s_U} {F : s_F} {x : Int} {a a1 a2 a3 a4 a5 c t rX' rM' : Int32} {B : Nat → Int}
def k_tX (S S1 : dg_S) : Prop := kp (fun a b => a = 1 ∧ b = 1) (fun a => a = 2) S S1
def k_tM (S S1 : dg_S) : Prop := kp (fun a b => a = 0 ∧ b = 1) (fun a => a = 1) S S1
theorem tX_1 (tp : cx_tp n B S) (hn : n + 1 ≤ 1600) (ht : t.toInt = n) (hc : ¬ c < (0 : Int32)) : ∃ S1, F_t_put_B1 a (c, t, S) = .inl (c + (-8), t + (1 : Int32), S1) ∧ cx_tp (n + 1) (s_tb B n ((a >>> (c &&& 31)) &&& 255).toInt) S1 ∧ k_tX S S1 := by
  have z1 : (1 : Int32).toInt = 1 := by decide +kernel
  have z16 : (1600 : Int32).toInt = 1600 := by decide +kernel
  have tn : t.toNatClampNeg = n := by rw [dk_clN, ht]; omega
  have t1 : (t + (1 : Int32)).toInt = (n : Int) + 1 := dk_addT ht z1 (by omega) (by omega)
  obtain ⟨w, hw⟩ : ∃ w : Int32, w = (a >>> (c &&& 31)) &&& 255 := ⟨_, rfl⟩
  obtain ⟨S2, h2⟩ : ∃ X, X = dg_uf S 2 (upd (S.2.1 2) t.toNatClampNeg w) := ⟨_, rfl⟩
  obtain ⟨S3, h3⟩ : ∃ X, X = dg_uF S2 1 1 (.int (t + (1 : Int32))) := ⟨_, rfl⟩
  refine ⟨S3, F_t_put_p2 hc (fun z => by have := w_le.mp z; omega) rfl hw h2 rfl h3 rfl, ⟨?_, by omega, fun i hi => ?_⟩, ?_⟩
  · rw [h3, w_I, if_pos ⟨rfl, rfl⟩, t1]
    rfl
  · have e : S3.2.1 2 i = if i = n then w else S.2.1 2 i := by
      rw [h3]
      show S2.2.1 2 i = _
      rw [h2, w_f, if_pos rfl, w_u, tn]
    rw [e]
    unfold s_tb
    by_cases z : i = n
    · rw [if_pos z, if_pos z, hw]
      exact ⟨rfl, w_ff _⟩
    · rw [if_neg z, if_neg z]
      exact tp.2.2 i (by omega)
  · unfold k_tX
    rw [h3, h2]
    exact kp.uF (kp.uf kp.rf rfl) ⟨rfl, rfl⟩
theorem tM_1 (tp : mx_tp n B S) (hn : n + 1 ≤ 1600) (ht : t.toInt = n) (hc : ¬ c < (0 : Int32)) : ∃ S1, F_m_put_B1 a (c, t, S) = .inl (c + (-8), t + (1 : Int32), S1) ∧ mx_tp (n + 1) (s_tb B n ((a >>> (c &&& 31)) &&& 255).toInt) S1 ∧ k_tM S S1 := by
  have z1 : (1 : Int32).toInt = 1 := by decide +kernel
  have tn : t.toNatClampNeg = n := by rw [dk_clN, ht]; omega
  have t1 : (t + (1 : Int32)).toInt = (n : Int) + 1 := dk_addT ht z1 (by omega) (by omega)
  obtain ⟨w, hw⟩ : ∃ w : Int32, w = (a >>> (c &&& 31)) &&& 255 := ⟨_, rfl⟩
  obtain ⟨S2, h2⟩ : ∃ X, X = dg_uf S 1 (upd (S.2.1 1) t.toNatClampNeg w) := ⟨_, rfl⟩
  obtain ⟨S3, h3⟩ : ∃ X, X = dg_uF S2 0 1 (.int (t + (1 : Int32))) := ⟨_, rfl⟩
  refine ⟨S3, F_m_put_p1 hc rfl hw h2 rfl h3 rfl, ⟨?_, by omega, fun i hi => ?_⟩, ?_⟩
  · rw [h3, w_I, if_pos ⟨rfl, rfl⟩, t1]
    rfl
  · have e : S3.2.1 1 i = if i = n then w else S.2.1 1 i := by
      rw [h3]
      show S2.2.1 1 i = _
      rw [h2, w_f, if_pos rfl, w_u, tn]
    rw [e]
    unfold s_tb
    by_cases z : i = n
    · rw [if_pos z, if_pos z, hw]
      exact ⟨rfl, w_ff _⟩
    · rw [if_neg z, if_neg z]
      exact tp.2.2 i (by omega)
  · unfold k_tM
    rw [h3, h2]
    exact kp.uF (kp.uf kp.rf rfl) ⟨rfl, rfl⟩
theorem t_put (tX : cx_tp n B SX) (tM : mx_tp n B SM) (hn : n + 4 ≤ 1600) : ∃ B', cx_tp (n + 4) B' (F_t_put oX SX a) ∧ mx_tp (n + 4) B' (F_m_put oM SM a) ∧ k_tX SX (F_t_put oX SX a) ∧ k_tM SM (F_m_put oM SM a) := by
  have z1 : (1 : Int32).toInt = 1 := by decide +kernel
  have c0 : ¬ (24 : Int32) < (0 : Int32) := by decide +kernel
  have c1 : ¬ (24 : Int32) + (-8) < (0 : Int32) := by decide +kernel
  have c2 : ¬ (24 : Int32) + (-8) + (-8) < (0 : Int32) := by decide +kernel
  have c3 : ¬ (24 : Int32) + (-8) + (-8) + (-8) < (0 : Int32) := by decide +kernel
  have c4 : (24 : Int32) + (-8) + (-8) + (-8) + (-8) < (0 : Int32) := by decide +kernel
  have fu : ((((24 : Int32)).toInt - (-9)).toNat + 1) = ((((29 + 1) + 1) + 1) + 1) + 1 := by decide +kernel
  have et : zI SX 1 1 = zI SM 0 1 := Int32.toInt_inj.mp (by rw [tX.1, tM.1])
  obtain ⟨t, ht⟩ : ∃ t : Int32, t = zI SX 1 1 := ⟨_, rfl⟩
  have h0 : t.toInt = n := by rw [ht]; exact tX.1
  have h1 : (t + (1 : Int32)).toInt = ((n + 1 : Nat) : Int) := by rw [dk_addT h0 z1 (by omega) (by omega)]; omega
  have h2 : (t + (1 : Int32) + (1 : Int32)).toInt = ((n + 1 + 1 : Nat) : Int) := by rw [dk_addT h1 z1 (by omega) (by omega)]; omega
  have h3 : (t + (1 : Int32) + (1 : Int32) + (1 : Int32)).toInt = ((n + 1 + 1 + 1 : Nat) : Int) := by rw [dk_addT h2 z1 (by omega) (by omega)]; omega
  obtain ⟨X1, e1, p1, q1⟩ := tX_1 (a := a) tX (by omega) h0 c0
  obtain ⟨X2, e2, p2, q2⟩ := tX_1 (a := a) p1 (by omega) h1 c1
  obtain ⟨X3, e3, p3, q3⟩ := tX_1 (a := a) p2 (by omega) h2 c2
  obtain ⟨X4, e4, p4, q4⟩ := tX_1 (a := a) p3 (by omega) h3 c3
  obtain ⟨M1, f1, r1, s1⟩ := tM_1 (a := a) tM (by omega) h0 c0
  obtain ⟨M2, f2, r2, s2⟩ := tM_1 (a := a) r1 (by omega) h1 c1
  obtain ⟨M3, f3, r3, s3⟩ := tM_1 (a := a) r2 (by omega) h2 c2
  obtain ⟨M4, f4, r4, s4⟩ := tM_1 (a := a) r3 (by omega) h3 c3
  have EX : F_t_put oX SX a = X4 := by
    rw [F_t_put_p3 ht, fu, lp_sl e1, lp_sl e2, lp_sl e3, lp_sl e4]
    exact lp_sr (F_t_put_p0 c4)
  have EM : F_m_put oM SM a = M4 := by
    rw [F_m_put_p2 (ht.trans et), fu, lp_sl f1, lp_sl f2, lp_sl f3, lp_sl f4]
    exact lp_sr (F_m_put_p0 c4)
  rw [EX, EM]
  exact ⟨_, p4, r4, q1.tr (q2.tr (q3.tr q4)), s1.tr (s2.tr (s3.tr s4))⟩
theorem mx_gf.k2 (h : mx_gf G K S) (e47 : zI S1 0 47 = zI S 0 47) (e13 : zI S1 0 13 = zI S 0 13) (e : ∀ i, i ≠ 1 → i ≤ 19 → S1.2.1 i = S.2.1 i) : mx_gf G K S1 := by
  have z : ∀ T : dg_S, mx_gf G K (dg_uf T 1 (S.2.1 1)) → (∀ i, i ≠ 1 → (dg_uf T 1 (S.2.1 1)).2.1 i = T.2.1 i) → mx_gf G K T := by
    intro T h q
    unfold mx_gf mx_g mx_gd mx_code mx_c1 at h ⊢
    rw [q 2 (by decide), q 3 (by decide), q 4 (by decide), q 5 (by decide), q 6 (by decide), q 7 (by decide), q 8 (by decide), q 9 (by decide), q 10 (by decide), q 11 (by decide), q 12 (by decide), q 13 (by decide), q 14 (by decide), q 15 (by decide), q 16 (by decide), q 17 (by decide), q 18 (by decide), q 19 (by decide)] at h
    exact h
  refine z S1 (h.keep e47 e13 (fun i hi => ?_)) (fun i hi => by rw [w_f, if_neg hi])
  rw [w_f]
  by_cases q : i = 1
  · rw [if_pos q, q]
  · rw [if_neg q]
    exact e i q hi
theorem RM.tape (h : RM G K A L U x S) (hb : G 0 6 ≤ 16) (t : k_tM S S1) : RM G K A L U x S1 := by
  obtain ⟨h1, h2, h3, h4, h5⟩ := h
  exact ⟨h1.k2 (t.I (by omega)) (t.I (by omega)) (fun i hi _ => (t.2 i hi).1), h2.keep hb (fun a a0 a1 j _ _ => by rw [(t.2 a (by omega)).1]), h3.keep hb (t.I (by omega)) (t.I (by omega)) (fun a a0 a1 j _ => by rw [(t.2 a (by omega)).1]), by rw [t.I (by omega)]; exact h4, by rw [t.L (by omega)]; exact h5⟩
/-- the tape alone is written -/
theorem LSy.tape (h : LSy oX g G K A L U x F SX SM) (t : k_tX SX S1) (t' : k_tM SM S2) : LSy oX g G K A L U x F S1 S2 := by
  have sep := rX_sep h.2.1.1.2.1.1.1
  obtain ⟨h1, ⟨h2, h3⟩, ⟨h4, h5⟩, h6, h7, h8⟩ := h
  exact ⟨h1, ⟨h2.keep t (by omega) (by omega) (fun a b _ _ => by omega) (fun b => by omega) (fun b => by omega) (fun a b _ _ => by omega) (fun a _ _ => by omega) (fun a _ _ => by omega) (by omega) (fun a _ _ => by omega), h3.tape h1.1.1.1.2.2.2 t'⟩, ⟨h4.f (t.I (by omega)) (t.2 230 (by omega)).1, h5.f (t'.I (by omega)) (t'.2 45 (by omega)).1 (t'.2 46 (by omega)).1 (t'.2 47 (by omega)).1⟩, h6.f (fun b _ => t.I (by omega)), h7.f (fun b _ => t.I (by omega)), h8.f (fun b _ => t.I (by omega))⟩
theorem LSn.tape (h : LSn oX g x SX SM) (hg : rX g) (t : k_tX SX S1) (t' : k_tM SM S2) : LSn oX g x S1 S2 := by
  have sep := rX_sep hg
  exact ⟨h.1, ⟨h.2.1.1.kk t (by omega) (by omega) (fun b => by omega) (fun b => by omega) (fun b => by omega) (by omega) (by omega), h.2.1.2.kk t' (fun b hb => by omega) (fun a ha => by omega)⟩, by rw [t.I (by omega), t'.I (by omega)]; exact h.2.2⟩
theorem LW.gr (w : LW oX gD gE SX SM) (h : cx_0 oX g x SX) : rX g := by
  have e := zR_eq w.2.2.2.1.2.1
  rw [← h.1, ← e]
  exact w.2.2.2.1.1.1
theorem LW.tape (w : LW oX gD gE SX SM) (t : k_tX SX S1) (t' : k_tM SM S2) (hT : LT S1 S2) : LW oX gD gE S1 S2 := by
  refine ⟨hT, w.2.1.eq (t.2 184 (by omega)).1 (t'.2 28 (by omega)).1, w.2.2.1.eq (t.I (by omega)) (t.2 183 (by omega)).1 (t'.I (by omega)) (t'.2 50 (by omega)).1, w.2.2.2.1.eq (t.1 0 6 (by omega)) (t.1 0 7 (by omega)), ?_⟩
  rcases w.2.2.2.2 with ⟨g, G, K, A, L, U, x, F, h⟩ | ⟨g, x, h⟩
  · exact Or.inl ⟨g, G, K, A, L, U, x, F, h.tape t t'⟩
  · exact Or.inr ⟨g, x, h.tape (w.gr h.2.1.1) t t'⟩
theorem LW.no (w : LW oX gD gE SX SM) (hk : k < 6) : LW oX gD gE (r_X k SX) (r_M k SM) := by
  have t := r_X.kp (k := k) (S := SX)
  have t' := r_M.kp (k := k) (S := SM)
  exact ⟨w.1.eq (t.I id) (t.2 2 (by decide)).1 (t'.I id) (t'.2 1 (by decide)).1, w.2.1.no hk, w.2.2.1.eq (t.I id) (t.2 183 (by decide)).1 (t'.I id) (t'.2 50 (by decide)).1, w.2.2.2.1.eq (t.1 0 6 id) (t.1 0 7 id), w.2.2.2.2.no⟩
theorem LT.z (h1 : (zI SX 1 1).toInt = 0) (h2 : (zI SM 0 1).toInt = 0) : LT SX SM := ⟨0, fun _ => 0, ⟨h1, by decide, fun i hi => absurd hi (Nat.not_lt_zero _)⟩, h2, by decide, fun i hi => absurd hi (Nat.not_lt_zero _)⟩
theorem LW.t0 (w : LW oX gD gE SX SM) : LW oX gD gE (dg_uF SX 1 1 (.int (0 : Int32))) (dg_uF SM 0 1 (.int (0 : Int32))) := by
  have z0 : (0 : Int32).toInt = 0 := by decide +kernel
  exact w.tape (kp.uF kp.rf ⟨rfl, rfl⟩) (kp.uF kp.rf ⟨rfl, rfl⟩) (LT.z (by rw [w_I, if_pos ⟨rfl, rfl⟩]; exact z0) (by rw [w_I, if_pos ⟨rfl, rfl⟩]; exact z0))
theorem W_feed (w : LW oX gD gE SX SM) (eX : S1 = (F_d_feed oX SX a1 a2 a3 a4 a5).1 ∧ rX' = (F_d_feed oX SX a1 a2 a3 a4 a5).2) (eM : S2 = (F_m_feed oM SM a1 a2 a3 a4 a5).1 ∧ rM' = (F_m_feed oM SM a1 a2 a3 a4 a5).2) : rX' = rM' ∧ LW oX gD gE S1 S2 := by
  have z0 : (0 : Int32).toInt = ((0 : Nat) : Int) := by decide +kernel
  have z20 : (20 : Int32).toInt = 20 := by decide +kernel
  have z16 : (1600 : Int32).toInt = 1600 := by decide +kernel
  obtain ⟨n, B, tX, tM⟩ := id w.1
  have n9 := tX.2.1
  have x1 : (zI SX 1 1 + (20 : Int32)).toInt = (n : Int) + 20 := dk_addT tX.1 z20 (by omega) (by omega)
  have m1 : (zI SM 0 1 + (20 : Int32)).toInt = (n : Int) + 20 := dk_addT tM.1 z20 (by omega) (by omega)
  obtain ⟨e1, e2⟩ := eX
  obtain ⟨e3, e4⟩ := eM
  by_cases q : n + 20 ≤ 1600
  · have qX : zI SX 1 1 + (20 : Int32) ≤ (1600 : Int32) := w_le.mpr (by omega)
    have qM : zI SM 0 1 + (20 : Int32) ≤ (1600 : Int32) := w_le.mpr (by omega)
    obtain ⟨B1, p1, r1, k1, j1⟩ := t_put (oX := oX) (oM := oM) (a := a1) tX tM (by omega)
    obtain ⟨B2, p2, r2, k2, j2⟩ := t_put (oX := oX) (oM := oM) (a := a2) p1 r1 (by omega)
    obtain ⟨B3, p3, r3, k3, j3⟩ := t_put (oX := oX) (oM := oM) (a := a3) p2 r2 (by omega)
    obtain ⟨B4, p4, r4, k4, j4⟩ := t_put (oX := oX) (oM := oM) (a := a4) p3 r3 (by omega)
    obtain ⟨B5, p5, r5, k5, j5⟩ := t_put (oX := oX) (oM := oM) (a := a5) p4 r4 (by omega)
    rw [F_d_feed_p1 rfl rfl qX rfl rfl rfl rfl, F_d_feed_p0 rfl rfl] at e1 e2
    rw [F_m_feed_p1 rfl rfl qM rfl rfl rfl rfl, F_m_feed_p0 rfl rfl] at e3 e4
    rw [e1, e2, e3, e4]
    exact ⟨Int32.toInt_inj.mp (p5.1.trans r5.1.symm), w.tape (k1.tr (k2.tr (k3.tr (k4.tr k5)))) (j1.tr (j2.tr (j3.tr (j4.tr j5)))) ⟨_, B5, p5, r5⟩⟩
  · have qX : ¬ zI SX 1 1 + (20 : Int32) ≤ (1600 : Int32) := fun z => by have := w_le.mp z; omega
    have qM : ¬ zI SM 0 1 + (20 : Int32) ≤ (1600 : Int32) := fun z => by have := w_le.mp z; omega
    rw [F_d_feed_p2 rfl rfl qX rfl rfl, none_r z0] at e1 e2
    rw [F_m_feed_p2 rfl rfl qM rfl rfl, ref_r z0] at e3 e4
    rw [e1, e2, e3, e4]
    exact ⟨rfl, w.no (by decide)⟩
theorem W_end (w : LW oX gD gE SX SM) (eX : S1 = (F_d_end oX SX a1).1 ∧ rX' = (F_d_end oX SX a1).2) (eM : S2 = (F_m_end oM SM a1).1 ∧ rM' = (F_m_end oM SM a1).2) : rX' = rM' ∧ LW oX gD gE S1 S2 := by
  have z0 : (0 : Int32).toInt = ((0 : Nat) : Int) := by decide +kernel
  obtain ⟨n, B, tX, tM⟩ := id w.1
  have n9 := tX.2.1
  have tX1 := tX.1
  have tM1 := tM.1
  obtain ⟨e1, e2⟩ := eX
  obtain ⟨e3, e4⟩ := eM
  by_cases q : a1 < (0 : Int32)
  · rw [F_d_end_p0 q rfl rfl, no_r z0] at e1 e2
    rw [F_m_end_p0 q rfl, ref_r z0] at e3 e4
    rw [e1, e2, e3, e4]
    exact ⟨rfl, w.no (by decide)⟩
  have d : ¬ a1.toInt < (0 : Int32).toInt := fun z => q (w_lt.mpr z)
  by_cases q2 : a1 ≤ zI SX 1 1
  · have d2 := w_le.mp q2
    have qM : a1 ≤ zI SM 0 1 := w_le.mpr (by omega)
    rw [F_d_end_p1 rfl q q2 rfl] at e1 e2
    rw [F_m_end_p1 rfl q qM rfl] at e3 e4
    rw [e1, e2, e3, e4]
    refine ⟨rfl, w.tape (kp.uF kp.rf ⟨rfl, rfl⟩) (kp.uF kp.rf ⟨rfl, rfl⟩) ⟨a1.toInt.toNat, B, ⟨?_, by omega, fun i hi => tX.2.2 i (by omega)⟩, ?_, by omega, fun i hi => tM.2.2 i (by omega)⟩⟩
    · rw [w_I, if_pos ⟨rfl, rfl⟩]
      omega
    · rw [w_I, if_pos ⟨rfl, rfl⟩]
      omega
  · have d2 : ¬ a1.toInt ≤ (zI SX 1 1).toInt := fun z => q2 (w_le.mpr z)
    have qM : ¬ a1 ≤ zI SM 0 1 := fun z => by have := w_le.mp z; omega
    rw [F_d_end_p2 rfl q q2 rfl rfl, no_r z0] at e1 e2
    rw [F_m_end_p2 rfl q qM rfl, ref_r z0] at e3 e4
    rw [e1, e2, e3, e4]
    exact ⟨rfl, w.no (by decide)⟩
theorem W_seed (w : LW oX gD gE SX SM) (eX : S1 = (F_d_seed oX SX a1).1 ∧ rX' = (F_d_seed oX SX a1).2) (eM : S2 = (F_m_seed oM SM a1).1 ∧ rM' = (F_m_seed oM SM a1).2) : rX' = rM' ∧ LW oX gD gE S1 S2 := by
  have z0 : (0 : Int32).toInt = 0 := by decide +kernel
  have z5 : (5 : Int32).toInt = ((5 : Nat) : Int) := by decide +kernel
  have hf := dk_full a1
  obtain ⟨e1, e2⟩ := eX
  obtain ⟨e3, e4⟩ := eM
  by_cases q : (0 : Int32) ≤ a1
  · have d := dk_gec z0 q
    rw [F_d_seed_p0 q rfl] at e1 e2
    rw [F_m_seed_p0 q rfl rfl] at e3 e4
    have t : kp (fun a b => a = 0 ∧ b = 12) (fun _ => False) SX S1 := by rw [e1]; exact kp.uF kp.rf ⟨rfl, rfl⟩
    have t' : kp (fun a b => a = 0 ∧ b = 62) (fun _ => False) SM S2 := by rw [e3]; exact kp.uF kp.rf ⟨rfl, rfl⟩
    have v : (zI S1 0 12).toInt = a1.toInt := by rw [e1, w_I, if_pos ⟨rfl, rfl⟩]
    have v' : (zL S2 0 62).toInt = a1.toInt := by
      rw [e3]
      unfold zL
      rw [w_F, if_pos ⟨rfl, rfl⟩]
      exact Int32.toInt_toInt64 a1
    refine ⟨by rw [e2, e4], w.1.eq (t.I (by omega)) (t.2 2 id).1 (t'.I (by omega)) (t'.2 1 id).1, w.2.1.eq (t.2 184 id).1 (t'.2 28 id).1, w.2.2.1.eq (t.I (by omega)) (t.2 183 id).1 (t'.I (by omega)) (t'.2 50 id).1, w.2.2.2.1.eq (t.1 0 6 (by omega)) (t.1 0 7 (by omega)), ?_⟩
    rcases w.2.2.2.2 with ⟨g, G, K, A, L, U, x, F, h⟩ | ⟨g, x, h⟩
    · obtain ⟨h1, ⟨h2, h3⟩, ⟨h4, h5⟩, h6, h7, h8⟩ := h
      exact Or.inl ⟨g, G, K, A, L, U, a1.toInt, F, ⟨h1.1, ⟨d, by omega⟩, h1.2.2⟩, ⟨h2.sx t v, h3.sx h1.1.1.1.2.2.2 t' v'⟩, ⟨h4.f (t.I (by omega)) (t.2 230 id).1, h5.f (t'.I (by omega)) (t'.2 45 id).1 (t'.2 46 id).1 (t'.2 47 id).1⟩, h6.f (fun b _ => t.I (by omega)), h7.f (fun b _ => t.I (by omega)), h8.f (fun b _ => t.I (by omega))⟩
    · have sep := rX_sep (w.gr h.2.1.1)
      obtain ⟨h1, ⟨⟨u1, u2, u3, u4, u5⟩, v1, v2, v3, v4, v5⟩, h4⟩ := h
      have e13 : zI S2 0 13 = zI SM 0 13 := t'.I (by omega)
      refine Or.inr ⟨g, a1.toInt, ⟨d, by omega⟩, ⟨⟨by rw [t.R (by omega)]; exact u1, ⟨by rw [t.I (by omega)]; exact u2.1, by rw [t.I (by omega)]; exact u2.2.1, by rw [t.I (by omega)]; exact u2.2.2.1, by rw [t.I (by omega)]; exact u2.2.2.2.1, by rw [t.I (by omega)]; exact u2.2.2.2.2⟩, ⟨by rw [t.I (by omega)]; exact u3.1, by rw [t.I (by omega)]; exact u3.2.1, fun k => by rw [(t.2 4 id).1]; exact u3.2.2.1 k, fun k => by rw [(t.2 9 id).1]; exact u3.2.2.2 k⟩, ⟨by rw [t.I (by omega)]; exact u4.1, by rw [t.I (by omega)]; exact u4.2⟩, v⟩, by rw [t'.I (by omega)]; exact v1, ⟨by rw [e13, (t'.2 2 id).1]; exact v2.1, by rw [e13, (t'.2 3 id).1]; exact v2.2.1, by rw [e13, (t'.2 8 id).1]; exact v2.2.2.1, by rw [e13, (t'.2 9 id).1]; exact v2.2.2.2.1, by rw [e13, (t'.2 12 id).1]; exact v2.2.2.2.2⟩, ⟨by rw [(t'.2 29 id).1]; exact v3.1, by rw [(t'.2 30 id).1]; exact v3.2.1, by rw [(t'.2 33 id).1]; exact v3.2.2.1, by rw [(t'.2 38 id).1]; exact v3.2.2.2.1, fun k => by rw [(t'.2 37 id).1]; exact v3.2.2.2.2 k⟩, by rw [t'.I (by omega)]; exact v4, v'⟩, by rw [t.I (by omega), t'.I (by omega)]; exact h4⟩
  · rw [F_d_seed_p1 q rfl rfl, no_r z5] at e1 e2
    rw [F_m_seed_p1 q rfl, ref_r z5] at e3 e4
    rw [e1, e2, e3, e4]
    exact ⟨rfl, w.no (by decide)⟩
end LD
end
section
/-! the law: FEEL, ON, IMAGE -/
section LE
variable {o oX oM g gD gE n k i : Nat} {WF WF' : List (Nat × Nat)} {WA WA' : List Nat} {S S0 S1 S2 SX SM T : dg_S} {G A : aR} {K : Nat → List Int} {L : s_L} {U : s_U} {F : s_F} {x : Int} {a a1 a2 a3 a4 a5 c t rX' rM' : Int32} {B : Nat → Int}
theorem W_feel (w : LW oX gD gE SX SM) (eX : S1 = (F_d_feel oX SX).1 ∧ rX' = (F_d_feel oX SX).2) (eM : S2 = (F_m_feel oM SM).1 ∧ rM' = (F_m_feel oM SM).2) : rX' = rM' ∧ LW oX gD gE S1 S2 := by
  have z5 : (5 : Int32).toInt = ((5 : Nat) : Int) := by decide +kernel
  obtain ⟨n, B, tX, tM⟩ := id w.1
  obtain ⟨e1, e2⟩ := eX
  obtain ⟨e3, e4⟩ := eM
  rcases w.2.2.2.2 with ⟨g, G, K, A, L, U, x, F, h⟩ | ⟨g, x, h⟩
  · obtain ⟨q1, q2, q3, q4, q5, D⟩ := sim_feel (oM := oM) h.1.1 h.2.1.1 tX h.2.1.2 tM
    rw [← e1] at q2 q4 D
    rw [← e3] at q3 q5 D
    refine ⟨by rw [e2, e4]; exact q1, ?_⟩
    obtain ⟨h1, h2, h3, h6, h7, h8⟩ := h
    rcases D with ⟨F', fk, f1, f2, f3, t, t'⟩ | ⟨f1, f2, t, t'⟩
    · exact ⟨LT.z q4 q5, w.2.1.eq (t.2 184 (by omega)).1 (t'.2 28 (by omega)).1, w.2.2.1.eq (t.I (by omega)) (t.2 183 (by omega)).1 (t'.I (by omega)) (t'.2 50 (by omega)).1, w.2.2.2.1.eq (t.1 0 6 (by omega)) (t.1 0 7 (by omega)), Or.inl ⟨g, G, K, A, L, U, x, F', ⟨h1.1, h1.2.1, fk⟩, ⟨q2, q3⟩, ⟨f1, f2⟩, h6.f (fun b _ => t.I (by omega)), h7.f (fun b _ => t.I (by omega)), Or.inl f3⟩⟩
    · exact ⟨LT.z q4 q5, w.2.1.up (by decide) f1 f2, w.2.2.1.eq (t.I (by omega)) (t.2 183 (by omega)).1 (t'.I (by omega)) (t'.2 50 (by omega)).1, w.2.2.2.1.eq (t.1 0 6 (by omega)) (t.1 0 7 (by omega)), Or.inl ⟨g, G, K, A, L, U, x, F, h1, ⟨q2, q3⟩, ⟨h3.1.f (t.I (by omega)) (t.2 230 (by omega)).1, h3.2.f (t'.I (by omega)) (t'.2 45 (by omega)).1 (t'.2 46 (by omega)).1 (t'.2 47 (by omega)).1⟩, h6.f (fun b _ => t.I (by omega)), h7.f (fun b _ => t.I (by omega)), h8.f (fun b _ => t.I (by omega))⟩⟩
  · rw [cx_0_feel h.2.1.1, none_r z5] at e1 e2
    rw [mx_0_feel h.2.1.2 tM.1 tM.2.1, ref_r z5] at e3 e4
    rw [e1, e2, e3, e4]
    exact ⟨rfl, w.t0.no (by decide)⟩
theorem W_on (w : LW oX gD gE SX SM) (eX : S1 = (F_d_on oX SX).1 ∧ rX' = (F_d_on oX SX).2) (eM : S2 = (F_m_on oM SM).1 ∧ rM' = (F_m_on oM SM).2) : rX' = rM' ∧ LW oX gD gE S1 S2 := by
  have z5 : (5 : Int32).toInt = ((5 : Nat) : Int) := by decide +kernel
  have z0 : (0 : Int32).toInt = 0 := by decide +kernel
  obtain ⟨n, B, tX, tM⟩ := id w.1
  obtain ⟨e1, e2⟩ := eX
  obtain ⟨e3, e4⟩ := eM
  rcases w.2.2.2.2 with ⟨g, G, K, A, L, U, x, F, h⟩ | ⟨g, x, h⟩
  · obtain ⟨q1, q2, q3, D, t, t'⟩ := sim_on (oM := oM) h.1.1 h.2.1.1 tX h.2.1.2 tM
    rw [← e1] at q2 D t
    rw [← e3] at q3 D t'
    refine ⟨by rw [e2, e4]; exact q1, ?_⟩
    obtain ⟨h1, h2, h3, h6, h7, h8⟩ := h
    have fe : cx_fe F S1 ∧ mx_fe F S2 := ⟨h3.1.f (t.I (by omega)) (t.2 230 (by omega)).1, h3.2.f (t'.I (by omega)) (t'.2 45 (by omega)).1 (t'.2 46 (by omega)).1 (t'.2 47 (by omega)).1⟩
    have hI : LI S1 S2 := w.2.2.1.eq (t.I (by omega)) (t.2 183 (by omega)).1 (t'.I (by omega)) (t'.2 50 (by omega)).1
    have hG : LG oX gD gE S1 := w.2.2.2.1.eq (t.1 0 6 (by omega)) (t.1 0 7 (by omega))
    rcases D with ⟨ok, r1, r2, f1, f2, c1, c2, c3⟩ | ⟨r1, r2, f1, f2, c1⟩
    · exact ⟨LT.z q2 q3, w.2.1.eq f1 f2, hI, hG, Or.inl ⟨g, G, K, _, [], [], x, F, ⟨ok, h1.2.1, h1.2.2⟩, ⟨r1, r2⟩, fe, Or.inl (by rw [c1]; exact z0), Or.inl (by rw [c2]; exact z0), Or.inl (by rw [c3]; exact z0)⟩⟩
    · exact ⟨LT.z q2 q3, w.2.1.up (by decide) f1 f2, hI, hG, Or.inl ⟨g, G, K, A, L, U, x, F, h1, ⟨r1, r2⟩, fe, h6.f (fun b _ => c1 221 b (Or.inl rfl)), h7.f (fun b _ => c1 221 b (Or.inl rfl)), h8.f (fun b _ => c1 229 b (Or.inr rfl))⟩⟩
  · rw [cx_0_on h.2.1.1, no_r z5] at e1 e2
    rw [mx_0_on h.2.1.2, ref_r z5] at e3 e4
    rw [e1, e2, e3, e4]
    exact ⟨rfl, w.t0.no (by decide)⟩
theorem LI.of {l : List Int} (h1 : cx_wl l SX) (h2 : mx_wl l SM) : LI SX SM := ⟨l.length, h1.1.1, h2.1.1, by have := h1.1.2; omega, fun i hi => Int32.toInt_inj.mp (by rw [h1.2.2 i hi, (h2.2 i hi).1])⟩
theorem W_image (w : LW oX gD gE SX SM) (eX : S1 = (F_d_image oX SX).1 ∧ rX' = (F_d_image oX SX).2) (eM : S2 = (F_m_image oM SM).1 ∧ rM' = (F_m_image oM SM).2) : rX' = rM' ∧ LW oX gD gE S1 S2 := by
  obtain ⟨e1, e2⟩ := eX
  obtain ⟨e3, e4⟩ := eM
  have fin : (k_im SX S1 ∧ k_in SM S2 ∧ LI S1 S2) → LSs oX S1 S2 → LW oX gD gE S1 S2 := fun ⟨t, t', hI⟩ hS => ⟨w.1.eq (t.I (by omega)) (t.2 2 (by omega)).1 (t'.I (by omega)) (t'.2 1 (by omega)).1, w.2.1.eq (t.2 184 (by omega)).1 (t'.2 28 (by omega)).1, hI, w.2.2.2.1.eq (t.1 0 6 (by omega)) (t.1 0 7 (by omega)), hS⟩
  rcases w.2.2.2.2 with ⟨g, G, K, A, L, U, x, F, h⟩ | ⟨g, x, h⟩
  · obtain ⟨q1, r1, r2, t, t', l, l1, l2⟩ := sim_image (oM := oM) h.1.1 h.2.1.1 h.2.1.2
    rw [← e1] at r1 t l1
    rw [← e3] at r2 t' l2
    obtain ⟨h1, h2, h3, h6, h7, h8⟩ := h
    exact ⟨by rw [e2, e4]; exact q1, fin ⟨t, t', LI.of l1 l2⟩ (Or.inl ⟨g, G, K, A, L, U, x, F, h1, ⟨r1, r2⟩, ⟨h3.1.f (t.I (by omega)) (t.2 230 (by omega)).1, h3.2.f (t'.I (by omega)) (t'.2 45 (by omega)).1 (t'.2 46 (by omega)).1 (t'.2 47 (by omega)).1⟩, h6.f (fun b _ => t.I (by omega)), h7.f (fun b _ => t.I (by omega)), h8.f (fun b _ => t.I (by omega))⟩)⟩
  · have hg := w.gr h.2.1.1
    have sep := rX_sep hg
    obtain ⟨T1, y1, u1, u2, u3, u4⟩ := cx_0_image h.2.1.1 hg
    obtain ⟨T2, y2, v1, v2, v3, v4⟩ := mx_0_image (o := oM) h.2.1.2
    rw [u1] at e1 e2
    rw [v1] at e3 e4
    subst e1 e3
    refine ⟨by rw [e2, e4]; exact Int32.toInt_inj.mp (u2.trans v2.symm), fin ⟨u4, v4, LI.of u3 v3⟩ (Or.inr ⟨g, x, h.1, ⟨h.2.1.1.kk u4 (by omega) (by omega) (fun b => by omega) (fun b => by omega) (fun b => by omega) (by omega) (by omega), h.2.1.2.kk v4 (fun b hb => by omega) (fun a ha => by omega)⟩, by rw [u4.I (by omega), v4.I (by omega)]; exact h.2.2⟩)⟩
end LE
end
