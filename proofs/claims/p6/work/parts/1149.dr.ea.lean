/-! what is sought ahead: the class's pit of trial; the best of some -/
theorem pX_222 : pX 222 := by
  have h1 : (222 : Nat) ∈ alX.getD 1 [] := by decide +kernel
  exact h1
/-- the best of all below n where P holds, the first of like ones; -1 without -/
noncomputable def s_bs (P : Nat → Prop) (f : Nat → Int) : Nat → Int × Int
  | 0 => (-1, -1)
  | n + 1 => s_if (P n ∧ (s_bs P f n).2 < f n) ((n : Int), f n) (s_bs P f n)
theorem s_bs_y {P : Nat → Prop} {f : Nat → Int} {n : Nat} (h : P n) (q : (s_bs P f n).2 < f n) : s_bs P f (n + 1) = ((n : Int), f n) := s_if_y ⟨h, q⟩
theorem s_bs_n {P : Nat → Prop} {f : Nat → Int} {n : Nat} (h : ¬ (P n ∧ (s_bs P f n).2 < f n)) : s_bs P f (n + 1) = s_bs P f n := s_if_n h
theorem s_bs_b {P : Nat → Prop} {f : Nat → Int} (hf : ∀ c, P c → 0 ≤ f c) : ∀ n : Nat, (s_bs P f n = (-1, -1) ∨ (0 ≤ (s_bs P f n).1 ∧ (s_bs P f n).1 < n ∧ P (s_bs P f n).1.toNat ∧ 0 ≤ (s_bs P f n).2))
  | 0 => Or.inl rfl
  | n + 1 => by
    have ih := s_bs_b hf n
    by_cases q : P n ∧ (s_bs P f n).2 < f n
    · rw [s_bs_y q.1 q.2]
      refine Or.inr ⟨?_, ?_, ?_, hf n q.1⟩
      · show (0 : Int) ≤ (n : Int)
        omega
      · show (n : Int) < ((n + 1 : Nat) : Int)
        omega
      · show P ((n : Int)).toNat
        rw [show ((n : Int)).toNat = n by omega]
        exact q.1
    · rw [s_bs_n q]
      rcases ih with ih | ⟨a, b, c, d⟩
      · exact Or.inl ih
      · exact Or.inr ⟨a, by omega, c, d⟩
section EA
variable {o oX oM g n p : Nat} {G A A' : aR} {K : Nat → List Int} {L L' : s_L} {U : s_U} {S S0 S1 SX SM : dg_S} {x x' r c v : Int} {a a1 a2 a3 a4 y : Int32}
theorem cx_pit_cellp (hp : pX p) (h : cx_pit G A S p) (hc : s_in G c) (hv : -2 ≤ v ∧ v ≤ 9) (hy : y.toInt = cx_en v) {i : Nat} (hi : i = (c + 8).toNat) : cx_pit G (s_up A 1 c.toNat v) (dg_uf S (p + 1) (upd (S.2.1 (p + 1)) i y)) p := by
  obtain ⟨y1, y2, y3, y4, y5, y6, y7⟩ := h
  have hc0 := hc.1
  have E : ∀ a b, a ≠ 1 → s_up A 1 c.toNat v a b = A a b := fun a b h => s_up_ne (fun z => h z.1)
  have ro : ∀ i', i' ≠ p + 1 → (dg_uf S (p + 1) (upd (S.2.1 (p + 1)) i y)).2.1 i' = S.2.1 i' := fun i' hi' => by rw [w_f, if_neg hi']
  have h9 := y1.up (S1 := dg_uf S (p + 1) (upd (S.2.1 (p + 1)) i y)) (x := c + 8) (v := v) (y := y) ⟨by omega, by omega⟩ (by rw [show c + 8 - 8 = c by omega]; exact hc) (by rw [w_f, if_pos rfl, hi]) hy hv
  rw [show c + 8 - 8 = c by omega] at h9
  exact ⟨h9, by rw [E _ _ (by decide)]; exact y2, by rw [E _ _ (by decide)]; exact y3, fun k hk => by rw [ro _ (by omega), E _ _ (by decide)]; exact y4 k hk, fun k hk => by rw [ro _ (by omega), ro _ (by omega), E _ _ (by decide), E _ _ (by decide)]; exact y5 k hk, fun k hk => by rw [ro _ (by omega), E _ _ (by decide)]; exact y6 k hk, fun k hk => by rw [ro _ (by omega), E _ _ (by decide)]; exact y7 k hk⟩
/-- what was sought stays: the fields of foresight and feeling -/
def k_sk (S S1 : dg_S) : Prop := (∀ b, zI S1 221 b = zI S 221 b) ∧ (∀ b, zI S1 229 b = zI S 229 b) ∧ S1.2.1 230 = S.2.1 230
theorem k_sk.rf : k_sk S S := ⟨fun _ => rfl, fun _ => rfl, rfl⟩
theorem k_sk.tr (h : k_sk S S0) (k : k_sk S0 S1) : k_sk S S1 := ⟨fun b => (k.1 b).trans (h.1 b), fun b => (k.2.1 b).trans (h.2.1 b), k.2.2.trans h.2.2⟩
theorem kp.sk {LF : Nat → Nat → Prop} {LA : Nat → Prop} (t : kp LF LA S S1) (f1 : ∀ b, ¬ LF 221 b) (f2 : ∀ b, ¬ LF 229 b) (fa : ¬ LA 230) : k_sk S S1 := ⟨fun b => t.I (f1 b), fun b => t.I (f2 b), (t.2 230 fa).1⟩
/-- the pit of trial 222 as the mine stands, but for what is changed there; n shifts of it -/
theorem cx_try (ok : s_ok G K A U) (okA : s_ok G K A' U) (h : RX o g G K A L U x S) {S3 : dg_S} (hS3 : RX o g G K A L U x S3) (p3 : cx_pit G A' S3 222) (hn : a1.toInt = n) (h40 : n ≤ 999) : ∃ S6 S7, F_w_enter o S3 g 222 (zI S g 3) = S6 ∧ F_w_pass o S6 a1 = S7 ∧ RX o g G K A L U x S7 ∧ cx_tr o g 222 G K (G 0 3) (s_n G K (G 0 3) n A') S7 ∧ k_sk S3 S7 := by
  have h3 := ok.1.2.1
  have sep := rX_sep h.2.1.1.1
  obtain ⟨S6, e6, f7, f6, f8, f9, k6⟩ := cx_enter (o := o) (S := S3) (g := g) (p := 222) (a := zI S g 3)
  have r3 : (zI S g 3).toInt = G 0 3 := h.2.1.2.1.2.2.1
  have r6 : RX o g G K A L U x S6 := hS3.keep k6 (by decide) (by decide) (fun a b _ _ => by omega) (fun b => by omega) (fun b => by omega) (fun a b _ _ => by omega) (fun a _ _ => id) (fun a _ _ => id) id (fun a _ _ => id)
  have p6 : cx_pit G A' S6 222 := p3.keep (fun i _ _ => (k6.2 i id).1) (fun b _ => k6.I (fun z => by omega))
  obtain ⟨S7, e7, r7, t7, k7⟩ := cx_pass (o := o) (p := 222) (a1 := a1) (n := n) (r := G 0 3) pX_222 (by decide) ok.1.1 ok.2.1 okA.2.2.1.1 okA.2.2.1.2 ⟨by omega, by omega⟩ r6 ⟨f7, f6, by rw [f8]; exact r3, r6.2.1.1, p6, Or.inl f9⟩ hn h40
  exact ⟨S6, S7, e6, e7, r7, t7, (k6.sk (fun b => by omega) (fun b => by omega) id).tr (k7.sk (fun b => by omega) (fun b => by omega) (by omega))⟩
/-- the pit of trial 222 is made as the mine stands -/
theorem cx_try0 (ok : s_ok G K A U) (h : RX o g G K A L U x S) : ∃ S2, F_p_copy o S 222 3 = S2 ∧ RX o g G K A L U x S2 ∧ cx_pit G A S2 222 ∧ k_sk S S2 := by
  have sep := rX_sep h.2.1.1.1
  obtain ⟨S2, e2, k2, p2⟩ := cx_copy (o := o) (S := S) (p := 222) (q := 3) pX_222 pX_3' (by decide) h.2.2.1 ok.1.1.2.2.2
  refine ⟨S2, e2, h.keep k2 (by omega) (by omega) (fun a b _ _ => by omega) (fun b => by omega) (fun b => by omega) (fun a b _ _ => by omega) (fun a _ _ => by omega) (fun a _ _ => by omega) (by omega) (fun a _ _ => by omega), p2, k2.sk (fun b => by omega) (fun b => by omega) (by omega)⟩
theorem s_n_okU (ok : s_ok G K A U) (n : Nat) : s_ok G K (s_n G K (G 0 3) n A) U := ⟨ok.1, ok.2.1, s_n_ok ok.1.1 ok.2.2.1.1 ok.2.2.1.2 n, ok.2.2.2⟩
theorem s_wo_b (ok : s_ok G K A U) : 0 ≤ s_wo G A ∧ s_wo G A ≤ 10000 := by
  have h1 := s_tg_b (A := A) ok.2.2.1.1.2.2.2.2.2 10 (by decide)
  have h2 := s_ws_b ok.2.2.1.2 64
  unfold s_wo
  omega
/-- worth, if a curtain were hung in c -/
noncomputable def s_sw (G : aR) (K : Nat → List Int) (A : aR) (n : Nat) (c : Nat) : Int := s_wo G (s_n G K (G 0 3) n (s_up A 1 c (-2)))
def s_sp9 (G A : aR) (c : Nat) : Prop := s_ps G A (c : Int) ∧ (c : Int) ≠ G 0 2
noncomputable def s_sh (G : aR) (K : Nat → List Int) (A : aR) (n m : Nat) : Int × Int := s_bs (s_sp9 G A) (s_sw G K A n) m
/-- one cell is tried -/
theorem cx_tryShade (ok : s_ok G K A U) (h : RX o g G K A L U x S) (hn : a1.toInt = n) (h40 : n ≤ 999) {d : Nat} (hc : s_sp9 G A d) (ha : a2.toInt = (d : Int) + 8) : ∃ S1, F_f_tryShade o S g 3 a1 a2 = S1 ∧ RX o g G K A L U x S1 ∧ ((zI S 221 5).toInt < s_sw G K A n d ∧ (zI S1 221 4).toInt = (d : Int) + 8 ∧ (zI S1 221 5).toInt = s_sw G K A n d ∨ ¬ (zI S 221 5).toInt < s_sw G K A n d ∧ zI S1 221 4 = zI S 221 4 ∧ zI S1 221 5 = zI S 221 5) ∧ (∀ b, b ≠ 4 → b ≠ 5 → zI S1 221 b = zI S 221 b) ∧ (∀ b, zI S1 229 b = zI S 229 b) ∧ S1.2.1 230 = S.2.1 230 := by
  obtain ⟨hps, hne⟩ := hc
  have c0 := hps.1.1
  have hA := s_up1_ok (v := -2) ok hps.1 hne ⟨by decide, by decide⟩
  rw [show ((d : Int)).toNat = d by omega] at hA
  obtain ⟨S2, e2, r2, p2, k2⟩ := cx_try0 (o := o) ok h
  obtain ⟨S3, h3⟩ : ∃ T, T = dg_uf S2 223 (upd (S2.2.1 223) a2.toNatClampNeg (254 : Int32)) := ⟨_, rfl⟩
  have t3 : kp (fun _ _ => False) (fun a => a = 223) S2 S3 := by rw [h3]; exact kp.uf kp.rf rfl
  have r3 : RX o g G K A L U x S3 := by
    have sep := rX_sep h.2.1.1.1
    exact r2.keep t3 id id (fun _ _ _ _ => id) (fun _ => id) (fun _ => id) (fun _ _ _ _ => id) (fun a _ _ => by omega) (fun a _ _ => by omega) (by decide) (fun a _ _ => by omega)
  have p3 : cx_pit G (s_up A 1 d (-2)) S3 222 := by
    rw [h3]
    have h9 := cx_pit_cellp (v := -2) (y := 254) (i := a2.toNatClampNeg) pX_222 p2 hps.1 ⟨by decide, by decide⟩ (by decide +kernel) (by rw [dk_clN, ha])
    rw [show ((d : Int)).toNat = d by omega] at h9
    exact h9
  obtain ⟨S6, S7, e6, e7, r7, t7, k7⟩ := cx_try (o := o) (a1 := a1) (n := n) ok hA h r3 p3 hn h40
  have k9 : k_sk S S7 := k2.tr ((t3.sk (fun _ => id) (fun _ => id) (by decide)).tr k7)
  have okn := s_n_okU hA n
  have ew : (F_p_wholeWorth o S7 222).toInt = s_sw G K A n d := cx_wholeWorth t7.2.2.2.2.1 okn.2.2.1.1 okn.2.2.1.2
  have Q : F_f_tryShade o S g 3 a1 a2 = F_f_tryShade_J1 o S7 a2 := F_f_tryShade_p2 e2.symm h3 rfl e6.symm e7.symm
  by_cases q : F_p_wholeWorth o S7 222 ≤ zI S7 221 5
  · have d5 := w_le.mp q
    rw [ew, k9.1] at d5
    exact ⟨S7, Q.trans (F_f_tryShade_p0 rfl rfl q), r7, Or.inr ⟨by omega, k9.1 _, k9.1 _⟩, fun b _ _ => k9.1 b, k9.2.1, k9.2.2⟩
  · have d5 : ¬ (F_p_wholeWorth o S7 222).toInt ≤ (zI S7 221 5).toInt := fun z => q (w_le.mpr z)
    rw [ew, k9.1] at d5
    obtain ⟨S16, h16⟩ : ∃ T, T = dg_uF S7 221 4 (.int a2) := ⟨_, rfl⟩
    obtain ⟨S17, h17⟩ : ∃ T, T = dg_uF S16 221 5 (.int (F_p_wholeWorth o S7 222)) := ⟨_, rfl⟩
    have t17 : kp (fun a b => a = 221 ∧ (b = 4 ∨ b = 5)) (fun _ => False) S7 S17 := by
      rw [h17, h16]
      exact kp.uF (kp.uF kp.rf ⟨rfl, Or.inl rfl⟩) ⟨rfl, Or.inr rfl⟩
    have sep := rX_sep h.2.1.1.1
    refine ⟨S17, Q.trans (F_f_tryShade_p1 rfl rfl q h16 h17), r7.keep t17 (by omega) (by omega) (fun a b _ _ => by omega) (fun b => by omega) (fun b => by omega) (fun a b _ _ => by omega) (fun a _ _ => id) (fun a _ _ => id) id (fun a _ _ => id), Or.inl ⟨by omega, ?_, ?_⟩, fun b b4 b5 => by rw [t17.I (fun z => by omega)]; exact k9.1 b, fun b => by rw [t17.I (fun z => by omega)]; exact k9.2.1 b, by rw [(t17.2 230 id).1]; exact k9.2.2⟩
    · rw [h17, w_I0 (by decide), h16, w_I, if_pos ⟨rfl, rfl⟩]
      exact ha
    · rw [h17, w_I, if_pos ⟨rfl, rfl⟩]
      exact ew
end EA
