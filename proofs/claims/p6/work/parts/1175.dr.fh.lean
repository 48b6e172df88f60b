/-! ON: the class reads the whole of an image -/
noncomputable def s_H (G : aR) : Nat := 5 + s_cp G 64
noncomputable def s_Pp (G : aR) : Nat := s_H G + (G 0 5).toNat
noncomputable def s_Oo (G : aR) : Nat := s_Pp G + 3 * (G 0 6).toNat
noncomputable def s_Tt (G : aR) : Nat := s_Oo G + (G 0 7).toNat
noncomputable def s_Ee (G : aR) : Nat := s_Tt G + 10
/-- AN IMAGE of this mine -/
def s_OV (G : aR) (B : Nat → Int) (n : Nat) : Prop := n = s_Ee G + 1 ∧ (∀ d : Nat, d < 64 → s_in G (d : Int) → s_oc G B 5 d) ∧ (∀ k, k < (G 0 5).toNat → B (s_H G + k) ≤ 1) ∧ (∀ k : Nat, (k : Int) < G 0 6 → B (s_Pp G + 3 * k) < G 0 5 ∧ B (s_Pp G + 3 * k + 1) < G 0 0 ∧ B (s_Pp G + 3 * k + 2) < G 0 1) ∧ (∀ k, k < (G 0 7).toNat → B (s_Oo G + k) ≤ 1) ∧ (∀ k, k < 10 → B (s_Tt G + k) ≤ 99) ∧ B (s_Ee G) = s_cb B (s_Ee G) ∧ 256 * B 0 + B 1 ≤ 999 ∧ 65536 * B 2 + 256 * B 3 + B 4 ≤ 99999
def s_dc (v : Int) : Int := if v = 255 then -1 else if v = 254 then -2 else v
/-- the mine as it tells -/
noncomputable def s_oA (G : aR) (B : Nat → Int) : aR := fun a b => if a = 0 then (if b = 0 then 256 * B 0 + B 1 else 65536 * B 2 + 256 * B 3 + B 4) else if a = 1 then s_dc (B (5 + s_cp G b)) else if a = 2 then (if b < (G 0 5).toNat then B (s_H G + b) else 0) else if a = 3 then B (s_Pp G + 3 * b) else if a = 4 then 8 * B (s_Pp G + 3 * b + 2) + B (s_Pp G + 3 * b + 1) else if a = 5 then (if b < (G 0 7).toNat then B (s_Oo G + b) else 0) else B (s_Tt G + b)
theorem w_shlk {a s : Int32} {v k : Nat} (ha : a.toInt = v) (hv : v ≤ 255) (hk : k ≤ 16) (hs : (s.toBitVec.smod 32).toNat = k) : (a <<< s).toInt = ((v * 2 ^ k : Nat) : Int) := by
  have h1 : 2 ^ k ≤ 2 ^ 16 := Nat.pow_le_pow_right (by decide) hk
  have h2 : v * 2 ^ k ≤ 255 * 2 ^ 16 := Nat.mul_le_mul hv h1
  have e31 : (255 * 2 ^ 16 : Nat) < 2 ^ 31 := by decide
  have e : a = nI v := Int32.toInt_inj.mp (by rw [ha, nI_toInt (Nat.lt_of_le_of_lt hv (by decide))])
  rw [e, pk_shlN s k hs (Nat.lt_of_le_of_lt h2 (by decide)), nI_toInt (Nat.lt_of_le_of_lt h2 e31)]
/-- all fits so far (and Φ), or it is no image -/
def cx_D (n : Nat) (B : Nat → Int) (p : Nat) (T : dg_S) (Φ Ω : Prop) : Prop := (cx_rd n B p T ∧ Φ) ∨ (cx_bd T ∧ ¬ Ω)
section FH
variable {o oX oM g n p q k i N : Nat} {G A A' : aR} {K : Nat → List Int} {B : Nat → Int} {S S0 S1 SX SM T T1 : dg_S} {x x' r c v t m : Int} {a a1 a2 a3 a4 y : Int32}
theorem cx_stp {V W : Nat → Prop} {Φ Ω : Prop} (h : cx_go n B q V W T T1) (D : cx_D n B p T Φ Ω) (hΩ : Ω → p + q ≤ n ∧ V p) : cx_D n B (p + q) T1 (Φ ∧ V p ∧ W p) Ω := by
  rcases D with ⟨d1, d2⟩ | ⟨d1, d2⟩
  · rcases h.1 p d1 with ⟨⟨w1, w2⟩, w3, w4⟩ | ⟨w1, w2⟩
    · exact Or.inl ⟨w3, d2, w2, w4⟩
    · exact Or.inr ⟨w2, fun z => w1 (hΩ z)⟩
  · exact Or.inr ⟨h.2 d1, d2⟩
theorem cx_stq {Φ Ω : Prop} (D : cx_D n B p T Φ Ω) (e3 : zI T1 182 3 = zI T 182 3) (e4 : zI T1 182 4 = zI T 182 4) (e5 : zI T1 182 5 = zI T 182 5) : cx_D n B p T1 Φ Ω := by
  rcases D with ⟨⟨u1, u2, u3, u4⟩, d2⟩ | ⟨d1, d2⟩
  · exact Or.inl ⟨⟨by rw [e5]; exact u1, by rw [e4]; exact u2, u3, by rw [e3]; exact u4⟩, d2⟩
  · refine Or.inr ⟨?_, d2⟩
    unfold cx_bd at d1 ⊢
    rw [e5]
    exact d1
def k_tp (S S1 : dg_S) : Prop := kp (fun a b => (a = 182 ∧ (b = 3 ∨ b = 4 ∨ b = 5)) ∨ (a = 10 ∧ b < 2)) (fun a => 10 < a ∧ a ≤ 16) S S1
theorem k_rd.tp (h : k_rd S S1) : k_tp S S1 := h.w (fun a b z => Or.inl z) (fun a z => z.elim)
theorem k_tp.tape (h : k_tp S S1) (tp : cx_tp n B S) : cx_tp n B S1 := tp.keep h (by omega) (by omega)
set_option maxHeartbeats 8000000 in
theorem cx_tellsPit (hg : cx_g G K S g) (hG : s_gx G) (tp : cx_tp n B S) : ∃ (S1 : dg_S) (y : Int32), F_i_tellsPit o S g 10 = (S1, y) ∧ k_tp S S1 ∧ ((s_OV G B n ∧ y = 1 ∧ cx_pit G (s_oA G B) S1 10) ∨ (¬ s_OV G B n ∧ y = 0)) := by
  have z0 : (0 : Int32).toInt = 0 := by decide +kernel
  have z1 : (1 : Int32).toInt = 1 := by decide +kernel
  have z10 : (10 : Int32).toInt = 10 := by decide +kernel
  have z99 : (99 : Int32).toInt = 99 := by decide +kernel
  have z233 : (233 : Int32).toInt = 233 := by decide +kernel
  have z255 : (255 : Int32).toInt = 255 := by decide +kernel
  have z999 : (999 : Int32).toInt = 999 := by decide +kernel
  have z99999 : (99999 : Int32).toInt = 99999 := by decide +kernel
  have s8 : (((8 : Int32) &&& 31).toBitVec.smod 32).toNat = 8 := by decide +kernel
  have s16 : (((16 : Int32) &&& 31).toBitVec.smod 32).toNat = 16 := by decide +kernel
  have sep := rX_sep hg.1.1
  have h5 := hG.2.2.2.1
  have h6 := hG.1.2.2
  have h7 := hG.2.2.2.2.1
  have eH : s_H G = 5 + s_cp G 64 := rfl
  have eP : s_Pp G = s_H G + (G 0 5).toNat := rfl
  have eO : s_Oo G = s_Pp G + 3 * (G 0 6).toNat := rfl
  have eT : s_Tt G = s_Oo G + (G 0 7).toNat := rfl
  have eE : s_Ee G = s_Tt G + 10 := rfl
  have g6 : (zI S g 6).toInt = (G 0 5).toNat := by rw [hg.2.1.2.2.2.2.1]; omega
  have g11 : (zI S g 11).toInt = (G 0 7).toNat := by rw [hg.2.1.2.2.2.2.2]; omega
  have byt : ∀ i, i < n → B i ≤ 255 := fun i hi => (tp.2.2 i hi).2.2
  obtain ⟨S2, e2⟩ : ∃ X, X = dg_uF S 182 4 (.int (0 : Int32)) := ⟨_, rfl⟩
  obtain ⟨S4, e4⟩ : ∃ X, X = dg_uF S2 182 3 (.int (233 : Int32)) := ⟨_, rfl⟩
  obtain ⟨S6, e6⟩ : ∃ X, X = dg_uF S4 182 5 (.int (1 : Int32)) := ⟨_, rfl⟩
  have k6 : k_tp S S6 := by
    rw [e6, e4, e2]
    exact kp.uF (kp.uF (kp.uF kp.rf (by omega)) (by omega)) (by omega)
  have gk : ∀ T, k_tp S T → cx_g G K T g := fun T t => hg.keep (fun j h1 h2 => (t.2 j (by omega)).1) (fun b => t.I (by omega))
  obtain ⟨S7, e7, k7, p7⟩ := cx_begin (o := o) (gk S6 k6) hG pX_10
  have t7 : k_tp S S7 := k6.tr (k7.w (fun a b z => Or.inr z) (fun a z => z))
  have i7 : ∀ b, zI S7 182 b = zI S6 182 b := fun b => k7.I (by omega)
  have D0 : cx_D n B 0 S7 True (s_OV G B n) := by
    refine Or.inl ⟨⟨?_, ?_, Nat.zero_le n, ?_⟩, trivial⟩
    · rw [i7, e6, w_I, if_pos ⟨rfl, rfl⟩]
      exact z1
    · rw [i7, e6, w_I0 (by decide), e4, w_I0 (by decide), e2, w_I, if_pos ⟨rfl, rfl⟩]
      exact z0
    · rw [i7, e6, w_I0 (by decide), e4, w_I, if_pos ⟨rfl, rfl⟩]
      exact z233
  have lt : ∀ j, j < s_H G → s_OV G B n → j < n := fun j hj w => by have := w.1; omega
  have lt5 : ∀ j, j < 5 → s_OV G B n → j + 1 ≤ n ∧ B j ≤ 255 := fun j hj w => ⟨lt j (by omega) w, byt j (lt j (by omega) w)⟩
  obtain ⟨S9, x8, n9, k9, ga⟩ := cx_next1 (o := o) (m := 255) (t7.tape tp) z255
  have t9 := t7.tr k9.tp
  have D1 := cx_stp ga D0 (lt5 0 (by decide))
  obtain ⟨x11, hx11⟩ : ∃ u : Int32, u = x8 <<< ((8 : Int32) &&& 31) := ⟨_, rfl⟩
  obtain ⟨S12, e12⟩ : ∃ X, X = dg_uF S9 10 0 (.int x11) := ⟨_, rfl⟩
  have t12 : k_tp S S12 := by rw [e12]; exact kp.uF t9 (by omega)
  have D1 := cx_stq (T1 := S12) D1 (by rw [e12, w_I0 (by decide)]) (by rw [e12, w_I0 (by decide)]) (by rw [e12, w_I0 (by decide)])
  obtain ⟨S14, x13, n14, k14, gb⟩ := cx_next1 (o := o) (m := 255) (t12.tape tp) z255
  have t14 := t12.tr k14.tp
  have D2 := cx_stp gb D1 (lt5 1 (by decide))
  obtain ⟨x16, hx16⟩ : ∃ u : Int32, u = x11 + x13 := ⟨_, rfl⟩
  obtain ⟨S17, e17⟩ : ∃ X, X = dg_uF S14 10 0 (.int x16) := ⟨_, rfl⟩
  have t17 : k_tp S S17 := by rw [e17]; exact kp.uF t14 (by omega)
  have D2 := cx_stq (T1 := S17) D2 (by rw [e17, w_I0 (by decide)]) (by rw [e17, w_I0 (by decide)]) (by rw [e17, w_I0 (by decide)])
  obtain ⟨S19, x18, n19, k19, gc⟩ := cx_next1 (o := o) (m := 255) (t17.tape tp) z255
  have t19 := t17.tr k19.tp
  have D3 := cx_stp gc D2 (lt5 2 (by decide))
  obtain ⟨x21, hx21⟩ : ∃ u : Int32, u = x18 <<< ((16 : Int32) &&& 31) := ⟨_, rfl⟩
  obtain ⟨S22, e22⟩ : ∃ X, X = dg_uF S19 10 1 (.int x21) := ⟨_, rfl⟩
  have t22 : k_tp S S22 := by rw [e22]; exact kp.uF t19 (by omega)
  have D3 := cx_stq (T1 := S22) D3 (by rw [e22, w_I0 (by decide)]) (by rw [e22, w_I0 (by decide)]) (by rw [e22, w_I0 (by decide)])
  obtain ⟨S24, x23, n24, k24, gd⟩ := cx_next1 (o := o) (m := 255) (t22.tape tp) z255
  have t24 := t22.tr k24.tp
  have D4 := cx_stp gd D3 (lt5 3 (by decide))
  obtain ⟨x27, hx27⟩ : ∃ u : Int32, u = x21 + x23 <<< ((8 : Int32) &&& 31) := ⟨_, rfl⟩
  obtain ⟨S28, e28⟩ : ∃ X, X = dg_uF S24 10 1 (.int x27) := ⟨_, rfl⟩
  have t28 : k_tp S S28 := by rw [e28]; exact kp.uF t24 (by omega)
  have D4 := cx_stq (T1 := S28) D4 (by rw [e28, w_I0 (by decide)]) (by rw [e28, w_I0 (by decide)]) (by rw [e28, w_I0 (by decide)])
  obtain ⟨S30, x29, n30, k30, ge⟩ := cx_next1 (o := o) (m := 255) (t28.tape tp) z255
  have t30 := t28.tr k30.tp
  have D5 := cx_stp ge D4 (lt5 4 (by decide))
  obtain ⟨x32, hx32⟩ : ∃ u : Int32, u = x27 + x29 := ⟨_, rfl⟩
  obtain ⟨S33, e33⟩ : ∃ X, X = dg_uF S30 10 1 (.int x32) := ⟨_, rfl⟩
  have t33 : k_tp S S33 := by rw [e33]; exact kp.uF t30 (by omega)
  have D5 := cx_stq (T1 := S33) D5 (by rw [e33, w_I0 (by decide)]) (by rw [e33, w_I0 (by decide)]) (by rw [e33, w_I0 (by decide)])
  have row33 : ∀ a, S33.2.1 a = S7.2.1 a := fun a => by
    rw [e33]
    show S30.2.1 a = _
    rw [(k30.2 a id).1, e28]
    show S24.2.1 a = _
    rw [(k24.2 a id).1, e22]
    show S19.2.1 a = _
    rw [(k19.2 a id).1, e17]
    show S14.2.1 a = _
    rw [(k14.2 a id).1, e12]
    show S9.2.1 a = _
    rw [(k9.2 a id).1]
  obtain ⟨S34, n34, k34, c34, gf⟩ := cx_takeCells (o := o) (gk S33 t33) hG (t33.tape tp) (fun j hj => by
    have ce := p7.1 (j : Int) (by omega) (by omega)
    have ev : cx_at S7 10 (j : Int) = (S33.2.1 11 j).toInt := by
      unfold cx_at
      rw [row33, show ((j : Int)).toNat = j by omega]
    rw [ev] at ce
    constructor
    · intro z w
      obtain ⟨c1, c2, c3⟩ := ce.1 w
      rw [z] at c1
      unfold cx_en at c1
      split at c1
      · omega
      · split at c1 <;> omega
    · intro z
      exact ce.2 z)
  have t34 : k_tp S S34 := t33.tr (k34.w (fun a b z => Or.inl z) (fun a z => by omega))
  have D6 := cx_stp gf D5 (fun w => ⟨by have := w.1; omega, w.2.1⟩)
  obtain ⟨S36, n36, k36, c36, gg⟩ := cx_takeAll (o := o) (f9 := F_i_takeAll_hurts_B1 (zI S g 6) o 1 10) (z := S34) (M := (7 - ((0 : Int32)).toInt).toNat + 1) (q := 10 + 2) (N := (G 0 5).toNat) (m := 1) (a2 := zI S g 6) (a3 := 1) (fun x T h => F_i_takeAll_hurts_p0 h) (fun x T h => F_i_takeAll_hurts_p1 h rfl rfl rfl rfl) (by decide) (t34.tape tp) g6 (by omega) (by rw [z0]; omega) z1
  have t36 : k_tp S S36 := t34.tr (k36.w (fun a b z => Or.inl z) (fun a z => by omega))
  have D7 := cx_stp gg D6 (fun w => ⟨by have := w.1; omega, w.2.2.1⟩)
  obtain ⟨S37, n37, k37, gh⟩ := cx_takePlan (o := o) (gk S36 t36) hG (t36.tape tp)
  have t37 : k_tp S S37 := t36.tr (k37.w (fun a b z => Or.inl z) (fun a z => by omega))
  have D8 := cx_stp gh D7 (fun w => ⟨by have := w.1; omega, w.2.2.2.1⟩)
  obtain ⟨S39, n39, k39, c39, gi⟩ := cx_takeAll (o := o) (f9 := F_i_takeAll_sold_B1 (zI S g 11) o 1 10) (z := S37) (M := (6 - ((0 : Int32)).toInt).toNat + 1) (q := 10 + 5) (N := (G 0 7).toNat) (m := 1) (a2 := zI S g 11) (a3 := 1) (fun x T h => F_i_takeAll_sold_p0 h) (fun x T h => F_i_takeAll_sold_p1 h rfl rfl rfl rfl) (by decide) (t37.tape tp) g11 (by omega) (by rw [z0]; omega) z1
  have t39 : k_tp S S39 := t37.tr (k39.w (fun a b z => Or.inl z) (fun a z => by omega))
  have D9 := cx_stp gi D8 (fun w => ⟨by have := w.1; omega, w.2.2.2.2.1⟩)
  obtain ⟨S41, n41, k41, c41, gj⟩ := cx_takeAll (o := o) (f9 := F_i_takeAll_tubs_B1 10 o 99 10) (z := S39) (M := (11 - ((0 : Int32)).toInt).toNat + 1) (q := 10 + 6) (N := 10) (m := 99) (a2 := 10) (a3 := 99) (fun x T h => F_i_takeAll_tubs_p0 h) (fun x T h => F_i_takeAll_tubs_p1 h rfl rfl rfl rfl) (by decide) (t39.tape tp) z10 (by decide) (by rw [z0]; decide) z99
  have t41 : k_tp S S41 := t39.tr (k41.w (fun a b z => Or.inl z) (fun a z => by omega))
  have D10 := cx_stp gj D9 (fun w => ⟨by have := w.1; omega, w.2.2.2.2.2.1⟩)
  obtain ⟨S44, x43, n44, k44, gl⟩ := cx_next1 (o := o) (m := 255) (t41.tape tp) z255
  have t44 : k_tp S S44 := t41.tr k44.tp
  have Q : F_i_tellsPit o S g 10 = F_i_tellsPit_J5 x43 (zI S41 182 3) S44 S x16 x32 := by
    rw [F_i_tellsPit_p10 e2 e4 e6 e7.symm, F_i_tellsPit_p9 (show S9 = _ by rw [n9]) (show x8 = _ by rw [n9]) hx11 e12 (show S14 = _ by rw [n14]) (show x13 = _ by rw [n14]) hx16 e17, F_i_tellsPit_p8 (show S19 = _ by rw [n19]) (show x18 = _ by rw [n19]) hx21 e22 (show S24 = _ by rw [n24]) (show x23 = _ by rw [n24]) rfl hx27 e28, F_i_tellsPit_p7 (show S30 = _ by rw [n30]) (show x29 = _ by rw [n30]) hx32 e33 n34.symm rfl (n36.symm.trans (F_i_takeAll_hurts_p2).symm), F_i_tellsPit_p6 n37.symm rfl (n39.symm.trans (F_i_takeAll_sold_p2).symm) (n41.symm.trans (F_i_takeAll_tubs_p2).symm) rfl (show S44 = _ by rw [n44]) (show x43 = _ by rw [n44])]
  have bad : cx_bd S44 → F_i_tellsPit o S g 10 = (S44, 0) := fun b => by
    rw [Q]
    by_cases q : x43 = zI S41 182 3
    · exact F_i_tellsPit_p1 q rfl (dk_eqp z0 b)
    · exact F_i_tellsPit_p0 q
  rcases (show (_ ∧ _) ∨ (_ ∧ _) from D10) with ⟨rd, Φ⟩ | ⟨b, nV⟩
  rotate_left
  · exact ⟨S44, 0, bad (gl.2 b), t44, Or.inr ⟨nV, rfl⟩⟩
  rcases gl.1 _ rd with ⟨⟨w1, -⟩, ⟨r1, r2, r3, r4⟩, w3⟩ | ⟨w1, w2⟩
  rotate_left
  · refine ⟨S44, 0, bad w2, t44, Or.inr ⟨fun z => w1 ?_, rfl⟩⟩
    have z := z.1
    exact ⟨by omega, byt _ (by omega)⟩
  obtain ⟨⟨⟨⟨⟨⟨⟨⟨⟨⟨-, -, b0⟩, -, b1⟩, -, b2⟩, -, b3⟩, -, b4⟩, v5, w5⟩, v6, w6⟩, v7, w7⟩, v8, w8⟩, v9, w9⟩ := Φ
  have b0 : x8.toInt = B 0 := b0
  have b1 : x13.toInt = B 1 := b1
  have b2 : x18.toInt = B 2 := b2
  have b3 : x23.toInt = B 3 := b3
  have b4 : x29.toInt = B 4 := b4
  have w3 : x43.toInt = B (s_Ee G) := w3
  have w1 : s_Ee G + 1 ≤ n := w1
  have r2 : (zI S44 182 4).toInt = ((s_Ee G + 1 : Nat) : Int) := r2
  have r42 : (zI S41 182 3).toInt = s_cb B (s_Ee G) := rd.2.2.2
  have y0 := tp.2.2 0 (by omega)
  have y1 := tp.2.2 1 (by omega)
  have y2 := tp.2.2 2 (by omega)
  have y3 := tp.2.2 3 (by omega)
  have y4 := tp.2.2 4 (by omega)
  have sh : ∀ (u s : Int32) (j k : Nat), u.toInt = B j → 0 ≤ B j ∧ B j ≤ 255 → k ≤ 16 → (s.toBitVec.smod 32).toNat = k → (u <<< s).toInt = B j * ((2 ^ k : Nat) : Int) := fun u s j k hu hb hk hs => by
    rw [w_shlk (v := (B j).toNat) (by omega) (by omega) hk hs, Int.natCast_mul, show (((B j).toNat : Nat) : Int) = B j by omega]
  have e8 : ((2 ^ 8 : Nat) : Int) = 256 := by decide
  have e16 : ((2 ^ 16 : Nat) : Int) = 65536 := by decide
  have v11 : x11.toInt = B 0 * 256 := by rw [hx11, sh x8 _ 0 8 b0 y0.2 (by decide) s8, e8]
  have v16 : x16.toInt = 256 * B 0 + B 1 := by rw [hx16, dk_addT v11 b1 (by omega) (by omega)]; omega
  have v21 : x21.toInt = B 2 * 65536 := by rw [hx21, sh x18 _ 2 16 b2 y2.2 (by decide) s16, e16]
  have v26 : (x23 <<< ((8 : Int32) &&& 31)).toInt = B 3 * 256 := by rw [sh x23 _ 3 8 b3 y3.2 (by decide) s8, e8]
  have v27 : x27.toInt = B 2 * 65536 + B 3 * 256 := by rw [hx27, dk_addT v21 v26 (by omega) (by omega)]
  have v32 : x32.toInt = 65536 * B 2 + 256 * B 3 + B 4 := by rw [hx32, dk_addT v27 b4 (by omega) (by omega)]; omega
  by_cases q1 : x43 = zI S41 182 3
  rotate_left
  · exact ⟨S44, 0, Q.trans (F_i_tellsPit_p0 q1), t44, Or.inr ⟨fun z => q1 (Int32.toInt_inj.mp (by rw [w3, r42]; exact z.2.2.2.2.2.2.1)), rfl⟩⟩
  have d1 := w_eq.mp q1
  rw [w3, r42] at d1
  have nf : ¬ zI S44 182 5 = (0 : Int32) := fun z => by have := dk_eqc z0 z; omega
  by_cases q2 : zI S44 182 4 = zI S 1 1
  rotate_left
  · refine ⟨S44, 0, Q.trans (F_i_tellsPit_p2 q1 rfl nf rfl rfl q2), t44, Or.inr ⟨fun z => q2 (Int32.toInt_inj.mp ?_), rfl⟩⟩
    rw [r2, tp.1]
    have := z.1
    omega
  have d2 := w_eq.mp q2
  rw [r2, tp.1] at d2
  by_cases q3 : (999 : Int32) < x16
  · have d3 := dk_gtc z999 q3
    exact ⟨S44, 0, Q.trans (F_i_tellsPit_p3 q1 rfl nf rfl rfl q2 q3), t44, Or.inr ⟨fun z => by have := z.2.2.2.2.2.2.2.1; omega, rfl⟩⟩
  have d3 : ¬ (999 : Int32).toInt < x16.toInt := fun z => q3 (w_lt.mpr z)
  by_cases q4 : (99999 : Int32) < x32
  · have d4 := dk_gtc z99999 q4
    exact ⟨S44, 0, Q.trans (F_i_tellsPit_p4 q1 rfl nf rfl rfl q2 q3 q4), t44, Or.inr ⟨fun z => by have := z.2.2.2.2.2.2.2.2; omega, rfl⟩⟩
  have d4 : ¬ (99999 : Int32).toInt < x32.toInt := fun z => q4 (w_lt.mpr z)
  have hV : s_OV G B n := ⟨by omega, v5, v6, v7, v8, v9, d1, by omega, by omega⟩
  refine ⟨S44, 1, Q.trans (F_i_tellsPit_p5 q1 rfl nf rfl rfl q2 q3 q4), t44, Or.inl ⟨hV, rfl, ?_⟩⟩
  have f0 : zI S44 10 0 = x16 := by
    rw [k44.I (by omega), k41.I (by omega), k39.I (by omega), k37.I (by omega), k36.I (by omega), k34.I (by omega), e33, w_I0 (by decide), k30.I (by omega), e28, w_I0 (by decide), k24.I (by omega), e22, w_I0 (by decide), k19.I (by omega), e17, w_I, if_pos ⟨rfl, rfl⟩]
  have f1 : zI S44 10 1 = x32 := by
    rw [k44.I (by omega), k41.I (by omega), k39.I (by omega), k37.I (by omega), k36.I (by omega), k34.I (by omega), e33, w_I, if_pos ⟨rfl, rfl⟩]
  have row : ∀ a, a ≠ 16 → a ≠ 15 → a ≠ 13 → a ≠ 14 → a ≠ 12 → S44.2.1 a = S34.2.1 a := fun a h1 h2 h3 h4 h5 => by
    rw [(k44.2 a id).1, (k41.2 a h1).1, (k39.2 a h2).1, (k37.2 a (by omega)).1, (k36.2 a h5).1]
  have row12 : S44.2.1 12 = S36.2.1 12 := by rw [(k44.2 12 id).1, (k41.2 12 (by decide)).1, (k39.2 12 (by decide)).1, (k37.2 12 (by decide)).1]
  have row13 : ∀ a, a = 13 ∨ a = 14 → S44.2.1 a = S37.2.1 a := fun a h => by rw [(k44.2 a id).1, (k41.2 a (by omega)).1, (k39.2 a (by omega)).1]
  have row15 : S44.2.1 15 = S39.2.1 15 := by rw [(k44.2 15 id).1, (k41.2 15 (by decide)).1]
  have row16 : S44.2.1 16 = S41.2.1 16 := (k44.2 16 id).1
  refine ⟨fun x0 hx0 hx1 => ?_, by rw [f0, v16]; rfl, by rw [f1, v32]; rfl, fun k hk => ?_, fun k hk => ?_, fun k hk => ?_, fun k hk => ?_⟩
  · obtain ⟨j, hj⟩ : ∃ j : Nat, x0 = j := ⟨x0.toNat, by omega⟩
    subst hj
    have ev : cx_at S44 10 (j : Int) = (S34.2.1 11 j).toInt := by
      unfold cx_at
      rw [show ((j : Int)).toNat = j by omega]
      show (S44.2.1 11 j).toInt = _
      rw [row 11 (by decide) (by decide) (by decide) (by decide) (by decide)]
    rw [ev]
    refine ⟨fun hin => ?_, fun hn => ?_⟩
    · have hin0 := hin.1
      obtain ⟨d, hd⟩ : ∃ d : Nat, j = d + 8 := ⟨j - 8, by omega⟩
      rw [show (j : Int) - 8 = (d : Int) by omega] at hin ⊢
      have wv := w5 d (by omega) hin
      rw [← hd] at wv
      have ok9 := (v5 d (by omega) hin).1
      have wv : (S34.2.1 11 j).toInt = B (5 + s_cp G d) := wv
      have ok9 : B (5 + s_cp G d) ≤ 9 ∨ 254 ≤ B (5 + s_cp G d) := ok9
      have es : s_c (s_oA G B) (d : Int) = s_dc (B (5 + s_cp G d)) := by
        show s_dc (B (5 + s_cp G ((d : Int)).toNat)) = _
        rw [show ((d : Int)).toNat = d by omega]
      have mono : 5 + s_cp G d < n := by
        have h1 : ∀ e : Nat, s_cp G (d + 1) ≤ s_cp G (d + 1 + e) := fun e => by
          induction e with
          | zero => exact Nat.le_refl _
          | succ e ih =>
            have : s_cp G (d + 1 + e) ≤ s_cp G (d + 1 + e + 1) := by
              by_cases u : s_in G ((d + 1 + e : Nat) : Int)
              · rw [s_cp_y u]; omega
              · rw [s_cp_n u]; exact Nat.le_refl _
            exact Nat.le_trans ih this
        have h2 := h1 (64 - (d + 1))
        rw [show d + 1 + (64 - (d + 1)) = 64 by omega, s_cp_y hin] at h2
        omega
      have bb := (tp.2.2 _ mono).2
      rw [wv, es]
      unfold s_dc cx_en
      by_cases u1 : B (5 + s_cp G d) = 255
      · rw [if_pos u1, if_pos rfl]
        exact ⟨u1, by decide, by decide⟩
      · rw [if_neg u1]
        by_cases u2 : B (5 + s_cp G d) = 254
        · rw [if_pos u2, if_neg (by decide), if_pos rfl]
          exact ⟨u2, by decide, by decide⟩
        · rw [if_neg u2, if_neg (by omega), if_neg (by omega)]
          exact ⟨rfl, by omega, by omega⟩
    · rw [c34 j (by omega) hn, row33]
      have ce := (p7.1 (j : Int) (by omega) (by omega)).2 hn
      unfold cx_at at ce
      rw [show ((j : Int)).toNat = j by omega] at ce
      exact ce
  · show (S44.2.1 12 k).toInt = if k < (G 0 5).toNat then B (s_H G + k) else 0
    rw [row12]
    by_cases u : k < (G 0 5).toNat
    · rw [if_pos u]
      exact w6 k u
    · rw [if_neg u]
      have e := c36 k (by omega)
      have e : S36.2.1 12 k = S34.2.1 12 k := e
      rw [e, (k34.2 12 (by decide)).1, row33]
      exact p7.2.2.2.1 k hk
  · obtain ⟨u1, u2⟩ := w7 k hk
    refine ⟨?_, ?_⟩
    · show (S44.2.1 13 k).toInt = B (s_Pp G + 3 * k)
      rw [row13 13 (Or.inl rfl)]
      exact u1
    · show (S44.2.1 14 k).toInt = 8 * B (s_Pp G + 3 * k + 2) + B (s_Pp G + 3 * k + 1) + 8
      rw [row13 14 (Or.inr rfl)]
      exact u2
  · show (S44.2.1 15 k).toInt = if k < (G 0 7).toNat then B (s_Oo G + k) else 0
    rw [row15]
    by_cases u : k < (G 0 7).toNat
    · rw [if_pos u]
      exact w8 k u
    · rw [if_neg u]
      have e := c39 k (by omega)
      have e : S39.2.1 15 k = S37.2.1 15 k := e
      rw [e, (k37.2 15 (by decide)).1, (k36.2 15 (by decide)).1, (k34.2 15 (by decide)).1, row33]
      exact p7.2.2.2.2.2.1 k hk
  · show (S44.2.1 16 k).toInt = B (s_Tt G + k)
    rw [row16]
    exact w9 k hk
end FH
