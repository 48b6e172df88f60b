/-! ON: the class, whole -/
theorem s_cp_up {G : aR} {c : Nat} : ∀ e : Nat, s_cp G c ≤ s_cp G (c + e) := by
  intro e
  induction e with
  | zero => exact Nat.le_refl _
  | succ e ih =>
    by_cases q : s_in G ((c + e : Nat) : Int)
    · have := s_cp_y q
      rw [show c + (e + 1) = (c + e) + 1 by omega]
      omega
    · have := s_cp_n q
      rw [show c + (e + 1) = (c + e) + 1 by omega]
      omega
theorem s_cp_lt {G : aR} {d : Nat} (h : s_in G (d : Int)) : s_cp G d < s_cp G 64 := by
  have h1 := s_cp_y h
  have h2 := h.1
  have h3 := s_cp_up (G := G) (c := d + 1) (63 - d)
  rw [show d + 1 + (63 - d) = 64 by omega] at h3
  omega
section FI
variable {o oX oM g n p q k i N : Nat} {G A A' : aR} {K : Nat → List Int} {B : Nat → Int} {L : s_L} {U : s_U} {S S0 S1 SX SM T T1 : dg_S} {x x' r c v t m : Int} {a a1 a2 a3 a4 y : Int32}
theorem s_oA_wf (hG : s_gx G) (V : s_OV G B n) (tb : ∀ i, i < n → 0 ≤ B i ∧ B i ≤ 255) : s_wf G (s_oA G B) ∧ s_cw G (s_oA G B) := by
  obtain ⟨⟨⟨⟨w1, w2⟩, w3, w4⟩, ⟨u1, u2⟩, u3, u4⟩, -, -, ⟨v1, v2⟩, ⟨t1, t2⟩, -⟩ := hG
  have eH : s_H G = 5 + s_cp G 64 := rfl
  have eP : s_Pp G = s_H G + (G 0 5).toNat := rfl
  have eO : s_Oo G = s_Pp G + 3 * (G 0 6).toNat := rfl
  have eT : s_Tt G = s_Oo G + (G 0 7).toNat := rfl
  have eE : s_Ee G = s_Tt G + 10 := rfl
  obtain ⟨e1, e2, e3, e4, e5, e6, -, e8, e9⟩ := V
  have b0 := tb 0 (by omega)
  have b1 := tb 1 (by omega)
  have b2 := tb 2 (by omega)
  have b3 := tb 3 (by omega)
  have b4 := tb 4 (by omega)
  have cel : ∀ c : Int, s_in G c → (0 ≤ B (5 + s_cp G c.toNat) ∧ B (5 + s_cp G c.toNat) ≤ 255) ∧ s_oc G B 5 c.toNat := by
    intro c hc
    have h0 := hc.1
    have hd : ((c.toNat : Nat) : Int) = c := by omega
    have hc2 : s_in G ((c.toNat : Nat) : Int) := by rw [hd]; exact hc
    have h2 := s_cp_lt hc2
    exact ⟨tb _ (by omega), e2 _ (by omega) hc2⟩
  refine ⟨⟨⟨?_, ?_⟩, ⟨?_, ?_⟩, fun k hk => ?_, fun k hk => ⟨⟨?_, ?_⟩, ?_⟩, fun k hk => ?_, fun k hk => ?_⟩, fun c hc => ?_, ?_, ?_⟩
  · show 0 ≤ 256 * B 0 + B 1
    omega
  · show 256 * B 0 + B 1 ≤ 999
    omega
  · show 0 ≤ 65536 * B 2 + 256 * B 3 + B 4
    omega
  · show 65536 * B 2 + 256 * B 3 + B 4 ≤ 99999
    omega
  · show (if k < (G 0 5).toNat then B (s_H G + k) else 0) = 0 ∨ ((if k < (G 0 5).toNat then B (s_H G + k) else 0) = 1 ∧ (k : Int) < G 0 5)
    by_cases q : k < (G 0 5).toNat
    · rw [if_pos q]
      have h1 := tb (s_H G + k) (by omega)
      have h2 := e3 k q
      omega
    · rw [if_neg q]
      exact Or.inl rfl
  · show 0 ≤ B (s_Pp G + 3 * k)
    exact (tb _ (by omega)).1
  · show B (s_Pp G + 3 * k) < min 6 (G 0 5)
    have h1 := (e4 k hk).1
    omega
  · have h1 := e4 k hk
    have h2 := tb (s_Pp G + 3 * k + 1) (by omega)
    have h3 := tb (s_Pp G + 3 * k + 2) (by omega)
    show s_in G (8 * B (s_Pp G + 3 * k + 2) + B (s_Pp G + 3 * k + 1))
    generalize B (s_Pp G + 3 * k + 2) = z2 at h1 h3 ⊢
    generalize B (s_Pp G + 3 * k + 1) = z1 at h1 h2 ⊢
    refine ⟨⟨?_, ?_⟩, ?_, ?_⟩ <;> omega
  · show (if k < (G 0 7).toNat then B (s_Oo G + k) else 0) = 0 ∨ (if k < (G 0 7).toNat then B (s_Oo G + k) else 0) = 1
    by_cases q : k < (G 0 7).toNat
    · rw [if_pos q]
      have h1 := tb (s_Oo G + k) (by omega)
      have h2 := e5 k q
      omega
    · rw [if_neg q]
      exact Or.inl rfl
  · show 0 ≤ B (s_Tt G + k) ∧ B (s_Tt G + k) ≤ 99
    exact ⟨(tb _ (by omega)).1, e6 k hk⟩
  · obtain ⟨h1, h2, -⟩ := cel c hc
    show -2 ≤ s_dc (B (5 + s_cp G c.toNat)) ∧ s_dc (B (5 + s_cp G c.toNat)) ≤ 9
    generalize B (5 + s_cp G c.toNat) = z at h1 h2 ⊢
    unfold s_dc
    by_cases q1 : z = 255
    · rw [if_pos q1]
      decide
    · rw [if_neg q1]
      by_cases q2 : z = 254
      · rw [if_pos q2]
        decide
      · rw [if_neg q2]
        omega
  · refine ⟨⟨?_, ?_⟩, ?_, ?_⟩ <;> omega
  · have hin : s_in G (G 0 2) := by refine ⟨⟨?_, ?_⟩, ?_, ?_⟩ <;> omega
    obtain ⟨h1, -, h2⟩ := cel _ hin
    show s_dc (B (5 + s_cp G (G 0 2).toNat)) = -1
    rw [h2 (by omega)]
    rfl
/-- what an image read leaves -/
theorem cx_on (hG : s_gx G) (h : RX o g G K A L U x S) (tp : cx_tp n B S) : ∃ (S1 : dg_S) (y : Int32), F_d_on o S = (S1, y) ∧ (zI S1 1 1).toInt = 0 ∧ ((s_OV G B n ∧ y = 1 ∧ RX o g G K (s_oA G B) [] [] x S1 ∧ S1.2.1 184 = S.2.1 184 ∧ zI S1 221 2 = 0 ∧ zI S1 221 3 = 0 ∧ zI S1 229 4 = 0) ∨ (¬ s_OV G B n ∧ y = 0 ∧ RX o g G K A L U x S1 ∧ S1.2.1 184 = upd (S.2.1 184) 5 (S.2.1 184 5 + (1 : Int32)) ∧ ∀ a b, a = 221 ∨ a = 229 → zI S1 a b = zI S a b)) ∧ kp (fun a b => (a = 182 ∧ 3 ≤ b) ∨ (a = 10 ∧ b < 2) ∨ (a = 3 ∧ b < 2) ∨ (a = 1 ∧ b = 1) ∨ (a = 17 ∧ (b = 1 ∨ b = 2)) ∨ (a = 221 ∧ (b = 2 ∨ b = 3)) ∨ (a = 229 ∧ b = 4)) (fun a => (3 ≤ a ∧ a ≤ 16) ∨ a = 184) S S1 := by
  have z0 : (0 : Int32).toInt = 0 := by decide +kernel
  have hb := hG.1.2.2.2
  have e0 := h.1
  have hg := h.2.1
  have sep := rX_sep hg.1.1
  have hs : ¬ F_g_hasSeam o S g = (0 : Int32) := by
    have h0 := hG.1.1.1.1
    rw [F_g_hasSeam_p1 rfl (fun z => by have := dk_lec (k := 0) (by decide +kernel) z; have := hg.2.1.1; omega)]
    decide +kernel
  obtain ⟨S1, y, e1, k1, D⟩ := cx_tellsPit (o := o) hg hG tp
  obtain ⟨S2, e2⟩ : ∃ X, X = dg_uF S1 1 1 (.int (0 : Int32)) := ⟨_, rfl⟩
  have t1 : kp (fun a b => (a = 182 ∧ 3 ≤ b) ∨ (a = 10 ∧ b < 2) ∨ (a = 1 ∧ b = 1)) (fun a => 10 < a ∧ a ≤ 16) S S1 := k1.w (fun a b z => by omega) (fun a z => z)
  have t2 : kp (fun a b => (a = 182 ∧ 3 ≤ b) ∨ (a = 10 ∧ b < 2) ∨ (a = 1 ∧ b = 1)) (fun a => 10 < a ∧ a ≤ 16) S S2 := by
    rw [e2]
    exact kp.uF t1 (by omega)
  have f2 : zI S2 1 1 = 0 := by rw [e2, w_I, if_pos ⟨rfl, rfl⟩]
  have r2 : RX o g G K A L U x S2 := h.keep t2 (by omega) (by omega) (fun a b _ _ => by omega) (fun b => by omega) (fun b => by omega) (fun a b _ _ => by omega) (fun a _ _ => by omega) (fun a _ _ => by omega) (by omega) (fun a _ _ => by omega)
  rcases D with ⟨hV, hy, pt⟩ | ⟨hV, hy⟩
  · have pt2 : cx_pit G (s_oA G B) S2 10 := by
      rw [e2]
      exact pt.keep (fun _ _ _ => rfl) (fun b _ => w_I0 (by omega))
    obtain ⟨S3, e3, k3, p3⟩ := cx_copy (o := o) pX_3' pX_10 (by decide) pt2 hb
    obtain ⟨S4, e4⟩ : ∃ X, X = dg_uF S3 17 1 (.int (0 : Int32)) := ⟨_, rfl⟩
    obtain ⟨S5, e5⟩ : ∃ X, X = dg_uF S4 17 2 (.int (0 : Int32)) := ⟨_, rfl⟩
    have ec : F_h_clear o S3 = S5 := by rw [e5, e4]; rfl
    have k5 : kp (fun a b => (a = 3 ∧ b < 2) ∨ (a = 17 ∧ (b = 1 ∨ b = 2))) (fun a => 3 < a ∧ a ≤ 9) S2 S5 := by
      rw [e5, e4]
      exact kp.uF (kp.uF (k3.w (fun a b z => by omega) (fun a z => by omega)) (by omega)) (by omega)
    obtain ⟨S6, e6⟩ : ∃ X, X = F_d_forgetTrials o S5 := ⟨_, rfl⟩
    have kf := cx_forget (o := o) (S := S5)
    rw [← e6] at kf
    have q1 : ¬ y = (0 : Int32) := by rw [hy]; decide
    have k6 : kp (fun a b => (a = 3 ∧ b < 2) ∨ (a = 17 ∧ (b = 1 ∨ b = 2)) ∨ (a = 221 ∧ (b = 2 ∨ b = 3)) ∨ (a = 229 ∧ b = 4)) (fun a => 3 < a ∧ a ≤ 9) S2 S6 := (k5.w (fun a b z => by omega) (fun a z => z)).tr (kf.w (fun a b z => by omega) (fun a z => z.elim))
    have kk : kp (fun a b => (a = 182 ∧ 3 ≤ b) ∨ (a = 10 ∧ b < 2) ∨ (a = 3 ∧ b < 2) ∨ (a = 1 ∧ b = 1) ∨ (a = 17 ∧ (b = 1 ∨ b = 2)) ∨ (a = 221 ∧ (b = 2 ∨ b = 3)) ∨ (a = 229 ∧ b = 4)) (fun a => (3 ≤ a ∧ a ≤ 16) ∨ a = 184) S S6 := (t2.w (fun a b z => by omega) (fun a z => by omega)).tr (k6.w (fun a b z => by omega) (fun a z => by omega))
    have eF : S6 = dg_uF (dg_uF (dg_uF S5 221 2 (.int 0)) 221 3 (.int 0)) 229 4 (.int 0) := by
      rw [e6, F_d_forgetTrials_p0 rfl rfl, F_e_forget_p0 rfl, F_f_forget_p0 rfl rfl]
    refine ⟨S6, 1, ?_, ?_, Or.inl ⟨hV, rfl, ⟨?_, ?_, ?_, ?_, ?_, ?_⟩, ?_, ?_, ?_, ?_⟩, kk⟩
    · rw [F_d_on_p3 e0.symm rfl hs (show S1 = _ by rw [e1]) (show y = _ by rw [e1]) q1 e2 e3.symm ec.symm, F_d_on_p2 e6]
    · rw [k6.I (by omega), f2]
      exact z0
    · rw [k6.R (by omega)]
      exact r2.1
    · exact r2.2.1.keep (fun i _ _ => (k6.2 i (by omega)).1) (fun b => k6.I (by omega))
    · refine p3.keep (fun i i0 i1 => ?_) (fun b hb2 => ?_)
      · rw [(kf.2 i id).1, e5, e4]
        rfl
      · rw [kf.I (by omega), e5, w_I0 (by omega), e4, w_I0 (by omega)]
    · refine ⟨?_, by decide, fun i hi => absurd hi (Nat.not_lt_zero _)⟩
      rw [kf.I (by omega), e5, w_I, if_neg (by omega), e4, w_I, if_pos ⟨rfl, rfl⟩]
      exact z0
    · obtain ⟨nx, n1, n2, -⟩ := h.2.2.2.2.1.2.2
      refine ⟨?_, by decide, nx, n1, ?_, fun i e he => by simp at he⟩
      · rw [kf.I (by omega), e5, w_I, if_pos ⟨rfl, rfl⟩]
        exact z0
      · rw [k6.I (by omega), t2.I (by omega)]
        exact n2
    · rw [k6.I (by omega)]
      exact r2.2.2.2.2.2
    · rw [(k6.2 184 (by omega)).1, (t2.2 184 (by omega)).1]
    · rw [eF, w_I0 (by omega), w_I, if_neg (by omega), w_I, if_pos ⟨rfl, rfl⟩]
    · rw [eF, w_I0 (by omega), w_I, if_pos ⟨rfl, rfl⟩]
    · rw [eF, w_I, if_pos ⟨rfl, rfl⟩]
  · obtain ⟨S3, e3, -, r3, es⟩ := cx_no (o := o) (a1 := 5) (k := 5) r2 (by decide +kernel)
    have k3 : kp (fun _ _ => False) (fun a => a = 184) S2 S3 := by rw [es]; exact kp.uf kp.rf rfl
    have row : S2.2.1 184 = S.2.1 184 := (t2.2 184 (by omega)).1
    refine ⟨S3, 0, ?_, ?_, Or.inr ⟨hV, rfl, r3, ?_, fun a b hab => ?_⟩, (t2.w (fun a b z => by omega) (fun a z => by omega)).tr (k3.w (fun a b z => z.elim) (fun a z => by omega))⟩
    · exact F_d_on_p1 e0.symm rfl hs (show S1 = _ by rw [e1]) (show y = _ by rw [e1]) hy e2 (show S3 = _ by rw [e3]) (show (0 : Int32) = _ by rw [e3])
    · rw [k3.I id, f2]
      exact z0
    · rw [es, w_f, if_pos rfl, row]
    · rw [k3.I id, t2.I (by omega)]
end FI
