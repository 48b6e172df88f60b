/-! operand() and goesOn() as steps of the machine of frames that writes -/
section NOL
variable {kd vl : Nat → Int32} {w kn ph pr x : Int} {bg : Bool} {ops : List Int} {o k : Nat} {R : List n_F} {out : List Int}
theorem n_opd_not (ht : m_tst kn = true) (hb : bg = true) (h : g_o kd vl 23 k = true) : n_opd kd vl w kn ph bg ops pr R o k out = if o = 7 then n_bad else (0, (kn, ph, true, 43 :: ops, pr) :: R, o + 1, k + 1, false, out) := by
  unfold n_opd m_fst n_opA
  rw [ht, hb, h]
  rfl
theorem n_opd_br (ht : m_tst kn = true) (hb : bg = true) (h : g_s kd vl 91 k = true) : n_opd kd vl w kn ph bg ops pr R o k out = n_push kn ph ops pr R o (k + 1) 5 0 out := by
  have h2 : g_o kd vl 23 k = false := by
    cases q : g_o kd vl 23 k with
    | false => rfl
    | true => have a := g_o_iff.mp q; have b := g_s_iff.mp h; omega
  unfold n_opd m_fst n_opA
  rw [ht, hb, h, h2]
  rfl
theorem n_opd_all (ht : m_tst kn = true) (hb : bg = true) (h : g_o kd vl 24 k = true) : n_opd kd vl w kn ph bg ops pr R o k out = (0, (kn, 2, false, ops, pr) :: R, o, k + 1, true, out ++ [-7]) := by
  have a := g_o_iff.mp h
  have h2 : g_o kd vl 23 k = false := by
    cases q : g_o kd vl 23 k with
    | false => rfl
    | true => have b := g_o_iff.mp q; omega
  have h3 : g_s kd vl 91 k = false := by
    cases q : g_s kd vl 91 k with
    | false => rfl
    | true => have b := g_s_iff.mp q; omega
  unfold n_opd m_fst n_opA
  rw [ht, hb, h, h2, h3]
  rfl
theorem n_opd_b (h : m_fst kd vl kn bg k = false) : n_opd kd vl w kn ph bg ops pr R o k out = n_opB kd vl w kn ph ops pr R o k out := by
  unfold n_opd
  rw [h]
  rfl
theorem n_opd_par (hf : m_fst kd vl kn bg k = false) (h : g_s kd vl 40 k = true) : n_opd kd vl w kn ph bg ops pr R o k out = n_push kn ph ops pr R o (k + 1) 2 0 out := by
  rw [n_opd_b hf]
  unfold n_opB
  rw [if_pos h]
theorem n_opd_if (hf : m_fst kd vl kn bg k = false) (h : g_o kd vl 20 k = true) : n_opd kd vl w kn ph bg ops pr R o k out = if g_s kd vl 40 (k + 1) then n_push kn ph ops pr R o (k + 2) 6 44 out else n_bad := by
  rw [n_opd_b hf]
  unfold n_opB
  rw [g_so_o h, h]
  rfl
theorem n_opd_mm (hf : m_fst kd vl kn bg k = false) (h : g_o kd vl 25 k = true ∨ g_o kd vl 26 k = true) : n_opd kd vl w kn ph bg ops pr R o k out = if g_s kd vl 40 (k + 1) then n_push kn ph ops pr R o (k + 2) 3 (if g_o kd vl 25 k then 36 else 37) out else n_bad := by
  rw [n_opd_b hf]
  unfold n_opB
  rcases h with h | h
  · rw [g_so_o h, g_oo (d := 20) h (by decide), h]; rfl
  · rw [g_so_o h, g_oo (d := 20) h (by decide), h, Bool.or_true]; rfl
/-- what an atom writes -/
def n_at (kd vl : Nat → Int32) (k : Nat) : Int := if g_n kd k then (vl k).toInt else d_fw kd vl k
theorem n_opd_at (hf : m_fst kd vl kn bg k = false) (h1 : g_s kd vl 40 k = false) (h2 : g_o kd vl 20 k = false) (h3 : g_o kd vl 25 k = false) (h4 : g_o kd vl 26 k = false) (h : g_n kd k = true ∨ g_fw kd vl w k = true) : n_opd kd vl w kn ph bg ops pr R o k out = (0, (kn, ph, false, ops, pr) :: R, o, k + 1, true, out ++ [n_at kd vl k]) := by
  rw [n_opd_b hf]
  unfold n_opB n_at
  rw [h1, h2, h3, h4]
  by_cases q : g_n kd k = true
  · rw [q]
    rfl
  · have q' : g_n kd k = false := by
      cases e : g_n kd k with
      | false => rfl
      | true => exact absurd e q
    rcases h with h | h
    · exact absurd h q
    · rw [q', h]
      rfl
/-- the sort, the value of an atom -/
theorem SRT.at {y : Int} (h : SRT kd vl k x) (hx : 0 ≤ x ∧ x ≤ 6) (hv : x = 0 → (vl k).toInt = y) : d_2 x y = n_at kd vl k := by
  obtain ⟨a0, a1, a2, a3, a4, a5, a6, -⟩ := h
  have hc : x = 0 ∨ x = 1 ∨ x = 2 ∨ x = 3 ∨ x = 4 ∨ x = 5 ∨ x = 6 := by omega
  have fw : ∀ {c : Int}, g_o kd vl c k = true → n_at kd vl k = d_fw kd vl k := fun {c} z => by
    unfold n_at
    rw [g_on z]
    rfl
  rcases hc with q | q | q | q | q | q | q
  · unfold n_at
    rw [a0 q, hv q, q]
    rfl
  · have z := g_o_iff.mp (a1 q)
    rw [fw (a1 q), d_fw_1 z.1 z.2, q]
    rfl
  · have z := g_o_iff.mp (a2 q)
    rw [fw (a2 q), d_fw_2 z.1 z.2, q]
    rfl
  · have z := g_o_iff.mp (a3 q)
    rw [fw (a3 q), d_fw_3 z.1 z.2, q]
    rfl
  · have z := g_o_iff.mp (a4 q)
    rw [fw (a4 q), d_fw_4 z.1 z.2, q]
    rfl
  · have z := g_o_iff.mp (a5 q)
    rw [fw (a5 q), d_fw_5 z.1 z.2, q]
    rfl
  · have z := g_o_iff.mp (a6 q)
    rw [fw (a6 q), d_fw_6 z.2, q]
    rfl
/-! goesOn -/
theorem n_go_cmp (ht : m_tst kn = true) (h0 : ph = 0) (h : g_so kd vl k = false ∧ g_po kd vl k = false) (hc : g_co kd vl k = true) : n_go kd vl kn ph bg ops pr R o k out = (0, (kn, 1, bg, n_cp kd vl k :: n_lo 5 ops, pr) :: R, o, k + 1, false, out ++ (n_hi 5 ops).map d_st) := by
  rw [h0, n_go_co ht h, if_pos hc]
theorem n_go_end (h : ph < 2 → g_so kd vl k = false ∧ g_po kd vl k = false) (hk : kn = 0 ∨ (kn = 1 ∧ ph ≠ 0 ∧ g_o kd vl 22 k = false ∧ g_o kd vl 21 k = false)) : n_go kd vl kn ph bg ops pr R o k out = (1, (kn, ph, bg, [], pr) :: R, o - n_cn ops, k, true, out ++ ops.map d_st) := by
  rcases hk with rfl | ⟨rfl, h0, h1, h2⟩
  · exact n_go_0 h
  · exact n_go_1 h h0 h1 h2
theorem n_go_com (h : ph < 2 → g_so kd vl k = false ∧ g_po kd vl k = false) (hk : kn = 3 ∨ (kn = 6 ∧ ph ≠ 0 ∧ g_o kd vl 22 k = false ∧ g_o kd vl 21 k = false)) (hs : g_s kd vl 44 k = true) : n_go kd vl kn ph bg ops pr R o k out = (0, ((if kn = 3 then 4 else 3), 0, bg, [], pr) :: R, o - n_cn ops, k + 1, false, out ++ ops.map d_st) := by
  rcases hk with rfl | ⟨rfl, h0, h1, h2⟩
  · rw [n_go_3 h, if_pos hs]; rfl
  · rw [n_go_6 h h0 h1 h2, if_pos hs]; rfl
theorem n_go_cls (h : ph < 2 → g_so kd vl k = false ∧ g_po kd vl k = false) (hk : ((kn = 2 ∨ kn = 4) ∧ g_s kd vl 41 k = true) ∨ (kn = 5 ∧ ph ≠ 0 ∧ g_o kd vl 22 k = false ∧ g_o kd vl 21 k = false ∧ g_s kd vl 93 k = true)) : n_go kd vl kn ph bg ops pr R o k out = n_pop kn ops pr R o k out := by
  rcases hk with ⟨rfl | rfl, hs⟩ | ⟨rfl, h0, h1, h2, hs⟩
  · rw [n_go_2 h, if_pos hs]
  · rw [n_go_4 h, if_pos hs]
  · rw [n_go_5 h h0 h1 h2, if_pos hs]
/-! which sign it is -/
theorem g_sx {c d : Int} (h : g_s kd vl c k = true) (hd : c ≠ d) : g_s kd vl d k = false := by
  cases q : g_s kd vl d k with
  | false => rfl
  | true => have b := g_s_iff.mp q; have a := g_s_iff.mp h; omega
theorem n_sg_1 (h : g_s kd vl 43 k = true) : n_sg kd vl k = 31 := by unfold n_sg; rw [h]; rfl
theorem n_sg_2 (h : g_s kd vl 45 k = true) : n_sg kd vl k = 32 := by unfold n_sg; rw [g_sx (d := 43) h (by decide), h]; rfl
theorem n_sg_3 (h : g_s kd vl 42 k = true) : n_sg kd vl k = 33 := by unfold n_sg; rw [g_sx (d := 43) h (by decide), g_sx (d := 45) h (by decide), h]; rfl
theorem n_sg_4 (h : g_s kd vl 47 k = true) : n_sg kd vl k = 34 := by unfold n_sg; rw [g_sx (d := 43) h (by decide), g_sx (d := 45) h (by decide), g_sx (d := 42) h (by decide), h]; rfl
theorem n_sg_5 (h1 : g_s kd vl 43 k = false) (h2 : g_s kd vl 45 k = false) (h3 : g_s kd vl 42 k = false) (h4 : g_s kd vl 47 k = false) : n_sg kd vl k = 35 := by unfold n_sg; rw [h1, h2, h3, h4]; rfl
theorem n_cp_1 (h : g_s kd vl 60 k = true) : n_cp kd vl k = 38 := by unfold n_cp; rw [h]; rfl
theorem n_cp_2 (h : g_s kd vl 62 k = true) : n_cp kd vl k = 39 := by unfold n_cp; rw [g_sx (d := 60) h (by decide), h]; rfl
theorem n_cp_3 (h1 : g_s kd vl 60 k = false) (h2 : g_s kd vl 62 k = false) : n_cp kd vl k = 40 := by unfold n_cp; rw [h1, h2]; rfl
/-- operators: one of rank 5, one of rank 6 -/
theorem n_go_5r (hp : ph < 2) (h : g_so kd vl k = true) : n_go kd vl kn ph bg ops pr R o k out = (0, (kn, ph, bg, n_sg kd vl k :: n_lo 5 ops, pr) :: R, o, k + 1, false, out ++ (n_hi 5 ops).map d_st) := n_go_so hp h
end NOL
section OPN
variable {tb : Nat → Int32} {n : Nat} {w : Int} {S S1 S' : dg_S} {WF : List (Nat × Nat)} {WA : List Nat} {sa fk y8 y4 r dp on om t x : Int32} {kn ph kn' ph' p p' : Int} {bg bg' q : Bool} {nt nt' o o' k' kk : Nat} {R R' : List m_F} {l l' L : List Int} {X X' : x_F}
/-- what an operand's reading writes -/
def OPN (tb : Nat → Int32) (n : Nat) (w : Int) (S S' : dg_S) (r : Int32) : Prop := ∀ sa fk f a : Int32, S.1 0 4 = .int sa → S.1 0 8 = .int fk → fk.toInt = 0 → S'.1 0 8 = .int f → S'.1 0 4 = .int a → f.toInt = 0 → ∃ L : List Int, q_am S S' L ∧ ∀ out : List Int, n_st (T_kd tb n) (T_vl tb n) w (NSv S (t_ix tb n sa.toNatClampNeg) false out) = NSv S' (t_ix tb n a.toNatClampNeg) (decide (r.toInt = 1)) (out ++ L)
theorem NSv.ms {k : Nat} {out : List Int} (T : TFM kn ph bg nt R o S) (F : XFM l p X S) : NSv S k q out = (0, (kn, ph, bg, l, n_np kn p) :: n_Z R X, o, k, q, out) := by
  unfold NSv
  rw [T.1, T.2.1, F]
  rfl
theorem NSv.keep {k : Nat} {out : List Int} (m : dg_sm shM WF WA S S1) (h1 : (0, 42) ∉ WF) (h2 : (0, 43) ∉ WF) (h3 : (0, 45) ∉ WF) (k2 : 22 ∉ WA) (k3 : 23 ∉ WA) (k4 : 24 ∉ WA) (k5 : 25 ∉ WA) (k6 : 26 ∉ WA) (k7 : 27 ∉ WA) : NSv S k q out = NSv S1 k q out := by
  unfold NSv MSL XSL
  rw [fI_sm m h1, fI_sm m h2, fI_sm m h3, (m.2 22 _ sM_22 k2).1, (m.2 23 _ sM_23 k3).1, (m.2 24 _ sM_24 k4).1, (m.2 25 _ sM_25 k5).1, (m.2 26 _ sM_26 k6).1, (m.2 27 _ sM_27 k7).1]
theorem NSv.uF46 {k : Nat} {v : Int32} {out : List Int} (e : S1 = dg_uF S 0 46 (.int v)) : NSv S1 k q out = NSv S k q out := by
  unfold NSv MSL XSL fI
  rw [dg_uF_f e, dg_uF_f e, dg_uF_f e, dg_uF_f e, dg_uF_f e, dg_uF_f e, dg_uF_ne e (fun z => absurd z.2 (by decide)), dg_uF_ne e (fun z => absurd z.2 (by decide)), dg_uF_ne e (fun z => absurd z.2 (by decide))]
theorem OPN.no (p8 : S'.1 0 8 = .int y8) (h8 : y8.toInt ≠ 0) : OPN tb n w S S' r := by
  intro sa fk f a q1 q2 q3 q4 q5 q6
  cases p8.symm.trans q4
  exact absurd q6 h8
theorem OPN.ok (f4 : S.1 0 4 = .int sa) (p4 : S'.1 0 4 = .int y4) (hM : ∀ out, NSv S (t_ix tb n sa.toNatClampNeg) false out = (0, (kn', ph', bg', l', n_np kn' p') :: n_Z R' X', o', kk, false, out)) (T : TFM kn ph bg nt R o S') (F : XFM l p X S') (Q : q_am S S' L) (e : ∀ out, n_opd (T_kd tb n) (T_vl tb n) w kn' ph' bg' l' (n_np kn' p') (n_Z R' X') o' kk out = (0, (kn, ph, bg, l, n_np kn p) :: n_Z R X, o, k', q, out ++ L)) (hk : t_ix tb n y4.toNatClampNeg = k') (hr : decide (r.toInt = 1) = q) : OPN tb n w S S' r := by
  intro sa' fk f a q1 q2 q3 q4 q5 q6
  cases f4.symm.trans q1
  cases p4.symm.trans q5
  exact ⟨L, Q, fun out => by rw [hM, n_st_f, e, NSv.ms T F, hk, hr]⟩
/-- behind frames() -/
theorem OPN.fr {v : Int} (f4 : S.1 0 4 = .int sa) (p8 : S'.1 0 8 = .int y8) (p4 : S'.1 0 4 = .int y4) (hM : ∀ out, NSv S (t_ix tb n sa.toNatClampNeg) false out = (0, (kn', ph', bg', l', n_np kn' p') :: n_Z R' X', o', kk, false, out)) (T : TFM kn ph false nt R o S1) (F : XFM l p X S1) (f1 : S1.1 0 42 = .int dp) (f2 : S1.1 0 43 = .int on) (f3 : S1.1 0 45 = .int om) (hd0 : 0 ≤ dp.toInt) (ho0 : 0 ≤ on.toInt) (m : dg_sm shM WF WA S1 S') (h45 : (0, 45) ∉ WF) (k5 : 25 ∉ WA) (k7 : 27 ∉ WA) (hF : ∀ k9 : Int32, S'.1 0 8 = .int k9 → k9.toInt = 0 → FRM S1 S' t) (Q : q_am S S' []) (e : ∀ out, n_opd (T_kd tb n) (T_vl tb n) w kn' ph' bg' l' (n_np kn' p') (n_Z R' X') o' kk out = n_push kn ph l (n_np kn p) (n_Z R X) o k' t.toInt v out) (hv : ∀ z, n_np t.toInt z = v) (hk : y8.toInt = 0 → t_ix tb n y4.toNatClampNeg = k') (hr : r.toInt = 0) : OPN tb n w S S' r := by
  intro sa' fk f a q1 q2 q3 q4 q5 q6
  cases f4.symm.trans q1
  cases p8.symm.trans q4
  cases p4.symm.trans q5
  have G := hF _ p8 q6
  have T2 := T.frm f1 f2 f3 hd0 ho0 m h45 k7 G
  obtain ⟨z, F2⟩ := F.push T f1 f2 f3 hd0 m h45 k5 k7 G.1
  have h6 := (G.2 on f2).1
  have e1 := dk_clN on
  have ho := T.2.1
  rw [fI_at f2] at ho
  refine ⟨[], Q, fun out => ?_⟩
  rw [hM, n_st_f, e, NSv.ms T2 F2, hk q6, show decide (r.toInt = 1) = false from by rw [hr]; rfl, List.append_nil, hv]
  unfold n_push
  rw [if_neg (by omega)]
  rfl
/-- what goesOn() writes -/
def GON (tb : Nat → Int32) (n : Nat) (w : Int) (S S' : dg_S) (r : Int32) : Prop := ∀ sa fk f a x : Int32, S.1 0 4 = .int sa → S.1 0 8 = .int fk → fk.toInt = 0 → S'.1 0 8 = .int f → S'.1 0 4 = .int a → S'.1 0 46 = .int x → f.toInt = 0 → ∃ L : List Int, q_am S S' L ∧ (r.toInt = 1 → ∀ out, n_st (T_kd tb n) (T_vl tb n) w (NSv S (t_ix tb n sa.toNatClampNeg) true out) = NSv S' (t_ix tb n a.toNatClampNeg) (decide (x.toInt = 1)) (out ++ L)) ∧ (r.toInt ≠ 1 → ∃ (N : List n_F) (o : Nat), ∀ out, n_st (T_kd tb n) (T_vl tb n) w (NSv S (t_ix tb n sa.toNatClampNeg) true out) = (1, N, o, t_ix tb n a.toNatClampNeg, true, out ++ L))
theorem GON.no (p8 : S'.1 0 8 = .int y8) (h8 : y8.toInt ≠ 0) : GON tb n w S S' r := by
  intro sa fk f a x q1 q2 q3 q4 q5 q6 q7
  cases p8.symm.trans q4
  exact absurd q7 h8
theorem GON.ok (f4 : S.1 0 4 = .int sa) (p4 : S'.1 0 4 = .int y4) (p46 : S'.1 0 46 = .int x) (hM : ∀ out, NSv S (t_ix tb n sa.toNatClampNeg) true out = (0, (kn', ph', bg', l', n_np kn' p') :: n_Z R' X', o', kk, true, out)) (T : TFM kn ph bg nt R o S') (F : XFM l p X S') (Q : q_am S S' L) (e : ∀ out, n_go (T_kd tb n) (T_vl tb n) kn' ph' bg' l' (n_np kn' p') (n_Z R' X') o' kk out = (0, (kn, ph, bg, l, n_np kn p) :: n_Z R X, o, k', q, out ++ L)) (hk : t_ix tb n y4.toNatClampNeg = k') (hr : r.toInt = 1) (hx : decide (x.toInt = 1) = q) : GON tb n w S S' r := by
  intro sa' fk f a x' q1 q2 q3 q4 q5 q6 q7
  cases f4.symm.trans q1
  cases p4.symm.trans q5
  cases p46.symm.trans q6
  exact ⟨L, Q, fun _ out => by rw [hM, n_st_t, e, NSv.ms T F, hk, hx], fun z => absurd hr z⟩
theorem GON.fin {N : List n_F} (f4 : S.1 0 4 = .int sa) (p4 : S'.1 0 4 = .int y4) (hM : ∀ out, NSv S (t_ix tb n sa.toNatClampNeg) true out = (0, (kn', ph', bg', l', n_np kn' p') :: n_Z R' X', o', kk, true, out)) (Q : q_am S S' L) (e : ∀ out, n_go (T_kd tb n) (T_vl tb n) kn' ph' bg' l' (n_np kn' p') (n_Z R' X') o' kk out = (1, N, o, k', true, out ++ L)) (hk : t_ix tb n y4.toNatClampNeg = k') (hr : r.toInt ≠ 1) : GON tb n w S S' r := by
  intro sa' fk f a x' q1 q2 q3 q4 q5 q6 q7
  cases f4.symm.trans q1
  cases p4.symm.trans q5
  exact ⟨L, Q, fun z => absurd z hr, fun _ => ⟨N, o, fun out => by rw [hM, n_st_t, e, hk]⟩⟩
/-- all that waits is of rank 1 or more -/
theorem n_hi_1 : ∀ {l : List Int}, n_hi 1 l = l ∧ n_lo 1 l = []
  | [] => ⟨rfl, rfl⟩
  | t :: l => by
    have h := n_hi_1 (l := l)
    have r := dk_rl t
    unfold n_hi n_lo at h ⊢
    rw [List.takeWhile_cons, List.dropWhile_cons, if_pos (by rw [decide_eq_true_eq]; omega), if_pos (by rw [decide_eq_true_eq]; omega), h.1, h.2]
    exact ⟨rfl, rfl⟩
end OPN
section GST
variable {kd vl : Nat → Int32} {k : Nat} {x : Int}
theorem g_so_t1 (h : g_s kd vl 43 k = true) : g_so kd vl k = true := by unfold g_so; rw [h]; rfl
theorem g_so_t2 (h : g_s kd vl 45 k = true) : g_so kd vl k = true := by unfold g_so; rw [h, Bool.or_true]
theorem g_po_t (h : g_so kd vl k = true ∨ g_po kd vl k = true) (h1 : g_s kd vl 43 k = false) (h2 : g_s kd vl 45 k = false) : g_po kd vl k = true := by
  rcases h with h | h
  · rw [g_so_f h1 h2] at h
    cases h
  · exact h
theorem n_mm (h : (x = 36 → g_o kd vl 25 k = true) ∧ (x = 37 → g_o kd vl 26 k = true)) (hx : x = 36 ∨ x = 37) : x = if g_o kd vl 25 k then 36 else 37 := by
  rcases hx with q | q
  · rw [if_pos (h.1 q), q]
  · rw [g_oo (d := 25) (h.2 q) (by decide), q]
    rfl
end GST
/-! a rule is read: what is written by then -/
section RDN
variable {tb : Nat → Int32} {n : Nat} {w kn p : Int} {S0 S S1 S' : dg_S} {f a x mo f1 a1 x1 mo1 r fk : Int32} {k0 : Nat}
def RDN (tb : Nat → Int32) (n : Nat) (w : Int) (k0 : Nat) (S0 S : dg_S) (mo f a x : Int32) : Prop := (mo.toInt = 1 → ∃ L : List Int, q_am S0 S L ∧ n_R (T_kd tb n) (T_vl tb n) w (n_s0 w 0 k0) (NSv S (t_ix tb n a.toNatClampNeg) (decide (x.toInt = 1)) L)) ∧ (mo.toInt = 0 → f.toInt = 0 → ∃ (L : List Int) (N : List n_F) (o : Nat), q_am S0 S L ∧ n_R (T_kd tb n) (T_vl tb n) w (n_s0 w 0 k0) (1, N, o, t_ix tb n a.toNatClampNeg, true, L))
theorem RDN.start (hm : mo.toInt = 1) (hx : x.toInt = 0) (T : TFM kn 0 true 0 [] 0 S) (F : XFM [] p [] S) (hk : kn = if w = 1 then 1 else 0) (ha : t_ix tb n a.toNatClampNeg = k0) (Q : q_am S0 S []) : RDN tb n w k0 S0 S mo f a x := by
  refine ⟨fun _ => ⟨[], Q, ?_⟩, fun z => absurd z (by omega)⟩
  rw [NSv.ms T F, ha, show decide (x.toInt = 1) = false from by rw [hx]; rfl, hk]
  unfold n_s0
  have e : n_np (if w = 1 then 1 else 0) p = 0 := by
    unfold n_np
    by_cases h : w = 1
    · rw [if_pos h]
      rfl
    · rw [if_neg h]
      rfl
  rw [e]
  exact n_R.rf
theorem RDN.opd (h : RDN tb n w k0 S0 S mo f a x) (hm : mo.toInt = 1) (hx : x.toInt = 0) (f4 : S.1 0 4 = .int a) (f8 : S.1 0 8 = .int f) (hf : f.toInt = 0) (O : OPN tb n w S S1 r) (p8 : S1.1 0 8 = .int f1) (p4 : S1.1 0 4 = .int a1) (hS : ∀ k q out, NSv S' k q out = NSv S1 k q out) (hQ : ∀ L, q_am S0 S1 L → q_am S0 S' L) (hx1 : x1.toInt = r.toInt) (hm1 : f1.toInt = 0 → mo1.toInt = 1) (hm2 : f1.toInt ≠ 0 → mo1.toInt = 0) : RDN tb n w k0 S0 S' mo1 f1 a1 x1 := by
  refine ⟨fun z => ?_, fun z z2 => absurd (hm1 z2) (by omega)⟩
  have z0 : f1.toInt = 0 := by
    by_cases q9 : f1.toInt = 0
    · exact q9
    · have := hm2 q9; omega
  obtain ⟨L0, Q0, r0⟩ := h.1 hm
  rw [show decide (x.toInt = 1) = false from by rw [hx]; rfl] at r0
  obtain ⟨L, Q, e⟩ := O a f f1 a1 f4 f8 hf p8 p4 z0
  refine ⟨L0 ++ L, hQ _ (Q0.tr Q), ?_⟩
  rw [hS, hx1]
  exact r0.tr (n_R.st (e L0))
theorem RDN.go (h : RDN tb n w k0 S0 S mo f a x) (hm : mo.toInt = 1) (hx : x.toInt = 1) (f4 : S.1 0 4 = .int a) (f8 : S.1 0 8 = .int f) (hf : f.toInt = 0) (O : GON tb n w S S' r) (p8 : S'.1 0 8 = .int f1) (p4 : S'.1 0 4 = .int a1) (p46 : S'.1 0 46 = .int x1) (hm1 : mo1.toInt = 1 ↔ (r.toInt = 1 ∧ f1.toInt = 0)) : RDN tb n w k0 S0 S' mo1 f1 a1 x1 := by
  obtain ⟨L0, Q0, r0⟩ := h.1 hm
  rw [show decide (x.toInt = 1) = true from by rw [hx]; rfl] at r0
  have O := O a f f1 a1 x1 f4 f8 hf p8 p4 p46
  refine ⟨fun z => ?_, fun z z2 => ?_⟩
  · obtain ⟨L, Q, e, -⟩ := O (hm1.mp z).2
    exact ⟨L0 ++ L, Q0.tr Q, r0.tr (n_R.st (e (hm1.mp z).1 L0))⟩
  · obtain ⟨L, Q, -, e⟩ := O z2
    obtain ⟨N, o, e⟩ := e (fun q9 => by have := hm1.mpr ⟨q9, z2⟩; omega)
    exact ⟨L0 ++ L, N, o, Q0.tr Q, r0.tr (n_R.st (e L0))⟩
theorem RDN.fin (hn : n ≤ 1600) (h : RDN tb n w k0 S0 S mo f a x) (hm : mo.toInt = 0) (p8 : S.1 0 8 = .int f) (q8 : S.1 0 8 = .int f1) (hf : f1.toInt = 0) : q_am S0 S (d_rule (T_kd tb n) (T_vl tb n) w k0) := by
  cases p8.symm.trans q8
  obtain ⟨L, N, o, Q, r⟩ := h.2 hm hf
  have hN : ∀ k, n ≤ k → (T_kd tb n k).toInt = 0 := fun k hk => T_kd_end hk
  have T := n_rule (vl := T_vl tb n) (w := w) hN hn 0 k0
  cases e : y_rule (T_kd tb n) (T_vl tb n) w k0 with
  | none =>
    have d := n_R.det r (T.1 e) rfl rfl
    have d2 := congrArg Prod.fst d
    exact absurd (show (1 : Nat) = 2 from d2) (by decide)
  | some j =>
    obtain ⟨t, r2, L', rfl⟩ := T.2 j e
    have d := n_R.det r r2 rfl rfl
    have d2 : L = d_rule (T_kd tb n) (T_vl tb n) w k0 := congrArg (fun s : n_S => s.2.2.2.2.2) d
    rw [← d2]
    exact Q
end RDN
