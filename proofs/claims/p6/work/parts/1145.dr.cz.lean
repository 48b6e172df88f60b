/-! what is read of a cell: both sides -/
section CZ
variable {o oX oM g : Nat} {G A : aR} {K : Nat → List Int} {L : s_L} {U : s_U} {S SX SM : dg_S} {x r c : Int} {a1 a2 a3 : Int32}
theorem e_run_ty {env : Int → Int} (h7 : env (-7) = 1) : ∀ (C : List Int) (q : e_S) (t t' : List Bool), (∀ s ∈ C, -6 ≤ s → s < 0 → -1000000 ≤ env s ∧ env s ≤ 1000000) → e_ty C t = some t' → e_vt q.1 t → q.2 = t.length → t.length ≤ 60 → e_vt (e_run env C q).1 t'
  | [], q, t, t', _, hty, hv, _, _ => by
    have e : t = t' := Option.some.inj hty
    rw [← e]
    exact hv
  | s :: C, q, t, t', hb, hty, hv, hn, h60 => by
    obtain ⟨t1, ht1, hty1⟩ := Option.bind_eq_some_iff.mp (show (e_t1 s t).bind (e_ty C) = some t' from hty)
    rcases e_step (q := q) (hb s (List.mem_cons_self ..)) h7 ht1 hv hn with ⟨v1, n1, l1⟩ | hs
    · exact e_run_ty h7 C (e_st env s q) t1 t' (fun s' hs' => hb s' (List.mem_cons_of_mem _ hs')) hty1 v1 n1 l1
    · omega
/-- a TEST tells 0 or 1 -/
theorem s_ev_01 {env : Int → Int} {C : List Int} (h7 : env (-7) = 1) (hb : ∀ s ∈ C, -6 ≤ s → s < 0 → -1000000 ≤ env s ∧ env s ≤ 1000000) (hty : e_ty C [] = some [true]) : s_ev env C = 0 ∨ s_ev env C = 1 := by
  have h := e_run_ty h7 C (fun _ => 0, 0) [] [true] hb hty trivial rfl (by decide)
  exact h.1.tst
/-- SAFE -/
def s_sf (G : aR) (K : Nat → List Int) (r : Int) (A : aR) (c : Int) : Prop := (s_so G A c ∧ 0 < s_ob G A c) ∧ ¬ s_fa G K r A c
/-- what cell tells -/
noncomputable def s_ce (G : aR) (K : Nat → List Int) (r : Int) (A : aR) (c w : Int) : Int :=
  if w = 0 then (if s_c A c < 0 then -1 else s_c A c) else if w = 1 then s_b (s_op G A c) else if w = 2 then s_b (s_lit G A r c) else if w = 3 then s_b (s_c A c = -2)
  else if w = 4 then s_if (s_op G A c) (s_fd G A c) (-1) else if w = 5 then s_b (s_sf G K r A c) else -1
/-- the works as they are entered for a look -/
theorem cx_look (ok : s_ok G K A U) (h : RX o g G K A L U x S) : ∃ S1, F_w_enter o S g 3 (zI S g 3) = S1 ∧ RX o g G K A L U x S1 ∧ cx_in o g G K (G 0 3) A L S1 := by
  have sep := rX_sep h.2.1.1.1
  obtain ⟨S7, e7, f7, f6, f8, f9, k7⟩ := cx_enter (o := o) (S := S) (g := g) (p := 3) (a := zI S g 3)
  have r3 : (zI S g 3).toInt = G 0 3 := h.2.1.2.1.2.2.1
  have r7 : RX o g G K A L U x S7 := h.keep k7 (by decide) (by decide) (fun a b _ _ => by omega) (fun b => by omega) (fun b => by omega) (fun a b _ _ => by omega) (fun a _ _ => id) (fun a _ _ => id) id (fun a _ _ => id)
  exact ⟨S7, e7, r7, f7, f6, by rw [f8]; exact r3, r7.2.1.1, r7.2.2.1, r7.2.2.2.1, Or.inl f9⟩
/-- light, looked at -/
theorem cx_see (ok : s_ok G K A U) (h : RX o g G K A L U x S) (hi : cx_in o g G K (G 0 3) A L S) : ∃ S1, F_w_spreadLight o S = S1 ∧ cx_light G A (G 0 3) S1 ∧ RX o g G K A L U x S1 ∧ zR o S1 214 7 = 3 ∧ zR o S1 214 6 = g ∧ (zI S1 214 8).toInt = G 0 3 ∧ k_sp S S1 := by
  have sep := rX_sep h.2.1.1.1
  have h3 := ok.1.2.1
  obtain ⟨S1, e1, l1, k1⟩ := cx_spread2 (o := o) pX_3' hi.1 hi.2.1 ok.1.1 hi.2.2.2.1 hi.2.2.1 ⟨by omega, by omega⟩ hi.2.2.2.2.1.1 ok.2.2.1.2.2 hi.2.2.2.2.2.2
  refine ⟨S1, e1, l1, h.keep k1 ?_ ?_ (fun a b _ _ => ?_) (fun b => ?_) (fun b => ?_) (fun a b _ _ => ?_) (fun a _ _ => ?_) (fun a _ _ => ?_) ?_ (fun a _ _ => ?_), by rw [k1.R (fun z => by omega)]; exact hi.1, by rw [k1.R (fun z => by omega)]; exact hi.2.1, by rw [k1.I (fun z => by omega)]; exact hi.2.2.1, k1⟩ <;> omega
theorem b_D_op {sh : Int} {op ps : Int → Prop} (hs : op sh) : ∀ (n : Nat) (c : Int), b_D sh op ps n c → op c
  | 0, c, h => by
    have h : c = sh := h
    rw [h]
    exact hs
  | n + 1, c, h => by
    rcases h with h | ⟨h, -⟩
    · exact b_D_op hs n c h
    · exact h
/-- the class: what cell tells -/
theorem cx_cell (ok : s_ok G K A U) (hF : ∀ c, ¬ s_op G A c → s_fd G A c = -1) (h : RX o g G K A L U x S) : (((0 ≤ a1.toInt ∧ a1.toInt < G 0 0) ∧ 0 ≤ a2.toInt ∧ a2.toInt < G 0 1) ∧ ∃ (S1 : dg_S) (y : Int32), F_d_cell o S a1 a2 a3 = (S1, y) ∧ y.toInt = s_ce G K (G 0 3) A (8 * a2.toInt + a1.toInt) a3.toInt ∧ RX o g G K A L U x S1) ∨ (¬ ((0 ≤ a1.toInt ∧ a1.toInt < G 0 0) ∧ 0 ≤ a2.toInt ∧ a2.toInt < G 0 1) ∧ F_d_cell o S a1 a2 a3 = (S, (-1 : Int32))) := by
  have z0 : (0 : Int32).toInt = 0 := by decide +kernel
  have z1 : (1 : Int32).toInt = 1 := by decide +kernel
  have z2 : (2 : Int32).toInt = 2 := by decide +kernel
  have z3 : (3 : Int32).toInt = 3 := by decide +kernel
  have z4 : (4 : Int32).toInt = 4 := by decide +kernel
  have z5 : (5 : Int32).toInt = 5 := by decide +kernel
  have m1 : (-1 : Int32).toInt = -1 := by decide +kernel
  have z254 : (254 : Int32).toInt = 254 := by decide +kernel
  have sep := rX_sep h.2.1.1.1
  rcases cx_place (o := o) (a1 := a1) (a2 := a2) h.2.1 ok.1.1.1 with ⟨p1, p2, p3, p4⟩ | ⟨p1, p2⟩
  rotate_left
  · exact Or.inr ⟨p1, F_d_cell_p8 h.1.symm rfl p2⟩
  refine Or.inl ⟨⟨p1, p2⟩, ?_⟩
  obtain ⟨c, hc⟩ : ∃ c, c = 8 * a2.toInt + a1.toInt := ⟨_, rfl⟩
  rw [← hc] at p3 p4 ⊢
  obtain ⟨pl, hpl⟩ : ∃ pl, pl = F_g_placeOf o S g a1 a2 := ⟨_, rfl⟩
  rw [← hpl] at p3
  have p40 := p4.1
  have q1 : ¬ pl = (-1 : Int32) := fun z => by have := dk_eqc (k := -1) (by decide +kernel) z; omega
  have pn : pl.toNatClampNeg = (c + 8).toNat := by rw [dk_clN, p3]
  obtain ⟨S8, e8, r8, i8⟩ := cx_look (o := o) ok h
  obtain ⟨l, u⟩ := ok.2.2.1.2.1 c p4
  have e4 : (S8.2.1 4 pl.toNatClampNeg).toInt = cx_en (s_c A c) := by
    have := ((r8.2.2.1.1 (c + 8) (by omega) (by omega)).1 (by rw [show c + 8 - 8 = c by omega]; exact p4)).1
    rw [show c + 8 - 8 = c by omega] at this
    rw [pn]
    exact this
  have fl : ∀ (T : dg_S) (y : Int32) (P : Prop), y.toInt = s_b P → (F_flag o T y).toInt = s_b P := fun T y P hy => by
    have := s_b01 P
    by_cases w : y = (0 : Int32)
    · rw [F_flag_p0 w, z0, ← hy, w, z0]
    · rw [F_flag_p1 w, z1]
      have := dk_neqc z0 w
      omega
  unfold s_ce
  by_cases c0 : a3 = (0 : Int32)
  · have d0 := dk_eqc z0 c0
    refine ⟨S8, _, F_d_cell_p1 h.1.symm hpl q1 rfl e8.symm c0 rfl, ?_, r8⟩
    rw [if_pos d0]
    have es := cx_isSolid0 (o := o) (a := pl) r8.2.2.1.1 (by omega) (by omega)
    rw [p3, show c + 8 - 8 = c by omega] at es
    by_cases w : F_p_isSolid0 o S8 3 pl = (0 : Int32)
    · rw [w, z0] at es
      rw [F_p_gradeAt_p0 rfl w, m1, if_pos]
      apply Classical.byContradiction
      intro v
      rw [s_b1 ⟨p4, by omega⟩] at es
      exact absurd es (by decide)
    · have sc : s_so G A c := by
        apply Classical.byContradiction
        intro v
        rw [s_b0 v] at es
        exact w (dk_eqp z0 es)
      have sc2 := sc.2
      rw [F_p_gradeAt_p1 rfl rfl w, if_neg (by omega)]
      have e4 : (S8.2.1 (3 + 1) pl.toNatClampNeg).toInt = cx_en (s_c A c) := e4
      rw [e4]
      unfold cx_en
      rw [if_neg (by omega), if_neg (by omega)]
  have d0 := dk_neqc z0 c0
  rw [if_neg d0]
  by_cases c1 : a3 = (1 : Int32)
  · have d1 := dk_eqc z1 c1
    refine ⟨S8, _, F_d_cell_p2 h.1.symm hpl q1 rfl e8.symm c0 c1 rfl rfl, ?_, r8⟩
    rw [if_pos d1]
    refine fl _ _ _ ?_
    have eo := cx_isOpen (o := o) (a := pl) r8.2.2.1.1 (by omega) (by omega)
    rw [p3, show c + 8 - 8 = c by omega] at eo
    exact eo
  have d1 := dk_neqc z1 c1
  rw [if_neg d1]
  obtain ⟨SL, eL, lL, rL, l7, l6, l8, kL⟩ := cx_see (o := o) ok r8 i8
  have hfar : (SL.2.1 217 pl.toNatClampNeg).toInt = s_fd G A c := by
    rw [← lL.1 c]
    unfold cx_far
    rw [if_pos (by omega), pn]
  have eF : F_w_farOf o S8 pl = (SL, SL.2.1 217 pl.toNatClampNeg) := F_w_farOf_p0 eL.symm rfl
  by_cases c2 : a3 = (2 : Int32)
  · have d2 := dk_eqc z2 c2
    rw [if_pos d2]
    have e4L : (SL.2.1 4 pl.toNatClampNeg).toInt = cx_en (s_c A c) := by rw [(kL.2 4 (fun z => by omega)).1]; exact e4
    have fin : ∀ y : Int32, F_w_isLit o S8 pl = (SL, y) → y.toInt = s_b (s_lit G A (G 0 3) c) → ∃ (S1 : dg_S) (y : Int32), F_d_cell o S a1 a2 a3 = (S1, y) ∧ y.toInt = s_b (s_lit G A (G 0 3) c) ∧ RX o g G K A L U x S1 := fun y e hy => ⟨SL, F_flag o SL y, F_d_cell_p3 h.1.symm hpl q1 rfl e8.symm c0 c1 c2 (by rw [e]) (show y = _ by rw [e]) rfl, fl _ _ _ hy, rL⟩
    by_cases w1 : SL.2.1 217 pl.toNatClampNeg = (-1 : Int32)
    · have v1 := dk_eqc m1 w1
      rw [hfar] at v1
      exact fin 0 (F_w_isLit_p0 (S_2 := SL) (by rw [eF]) (by rw [eF]) w1) (by rw [z0, s_b0 (fun z => z.2.1 v1)])
    have v1 := dk_neqc m1 w1
    rw [hfar] at v1
    by_cases w2 : zI S8 214 8 < SL.2.1 217 pl.toNatClampNeg
    · have v2 := w_lt.mp w2
      rw [hfar, i8.2.2.1] at v2
      exact fin 0 (F_w_isLit_p1 (S_2 := SL) (by rw [eF]) (by rw [eF]) w1 rfl w2) (by rw [z0, s_b0 (fun z => by have := z.2.2; omega)])
    have v2 : ¬ (zI S8 214 8).toInt < (SL.2.1 217 pl.toNatClampNeg).toInt := fun z => w2 (w_lt.mpr z)
    rw [hfar, i8.2.2.1] at v2
    have ps : cx_en (s_c A c) = 255 ↔ s_c A c = -1 := by
      unfold cx_en
      by_cases w : s_c A c = -1
      · rw [if_pos w]
        exact ⟨fun _ => w, fun _ => rfl⟩
      · rw [if_neg w]
        refine ⟨fun z => ?_, fun z => absurd z w⟩
        split at z <;> omega
    by_cases w3 : SL.2.1 (3 + 1) pl.toNatClampNeg = (255 : Int32)
    · have v3 := dk_eqc (k := 255) (by decide +kernel) w3
      have v3 : (SL.2.1 4 pl.toNatClampNeg).toInt = 255 := v3
      rw [e4L] at v3
      exact fin 1 (F_w_isLit_p3 (S_2 := SL) (by rw [eF]) (by rw [eF]) w1 rfl w2 i8.1.symm rfl w3) (by rw [z1, s_b1 ⟨⟨p4, ps.mp v3⟩, v1, by omega⟩])
    · have v3 := dk_neqc (k := 255) (by decide +kernel) w3
      have v3 : (SL.2.1 4 pl.toNatClampNeg).toInt ≠ 255 := v3
      rw [e4L] at v3
      exact fin 0 (F_w_isLit_p2 (S_2 := SL) (by rw [eF]) (by rw [eF]) w1 rfl w2 i8.1.symm rfl w3) (by rw [z0, s_b0 (fun z => v3 (ps.mpr z.1.2))])
  have d2 := dk_neqc z2 c2
  rw [if_neg d2]
  by_cases c3 : a3 = (3 : Int32)
  · have d3 := dk_eqc z3 c3
    rw [if_pos d3]
    have ps : cx_en (s_c A c) = 254 ↔ s_c A c = -2 := by
      unfold cx_en
      by_cases w : s_c A c = -1
      · rw [if_pos w]
        exact ⟨fun z => by omega, fun z => by omega⟩
      · rw [if_neg w]
        by_cases v : s_c A c = -2
        · rw [if_pos v]
          exact ⟨fun _ => v, fun _ => rfl⟩
        · rw [if_neg v]
          exact ⟨fun z => by omega, fun z => absurd z v⟩
    by_cases w : S8.2.1 4 pl.toNatClampNeg = (254 : Int32)
    · have v := dk_eqc z254 w
      rw [e4] at v
      exact ⟨S8, _, F_d_cell_p5 h.1.symm hpl q1 rfl e8.symm c0 c1 c2 c3 rfl w rfl, fl _ _ _ (by rw [z1, s_b1 (ps.mp v)]), r8⟩
    · have v := dk_neqc z254 w
      rw [e4] at v
      exact ⟨S8, _, F_d_cell_p4 h.1.symm hpl q1 rfl e8.symm c0 c1 c2 c3 rfl w rfl, fl _ _ _ (by rw [z0, s_b0 (fun z => v (ps.mpr z))]), r8⟩
  have d3 := dk_neqc z3 c3
  rw [if_neg d3]
  by_cases c4 : a3 = (4 : Int32)
  · have d4 := dk_eqc z4 c4
    rw [if_pos d4]
    refine ⟨SL, _, F_d_cell_p6 h.1.symm hpl q1 rfl e8.symm c0 c1 c2 c3 c4 (by rw [eF]) (by rw [eF]), ?_, rL⟩
    rw [hfar]
    by_cases w : s_op G A c
    · rw [s_if_y w]
    · rw [s_if_n w]
      exact hF c w
  have d4 := dk_neqc z4 c4
  rw [if_neg d4]
  by_cases c5 : a3 = (5 : Int32)
  rotate_left
  · have d5 := dk_neqc z5 c5
    rw [if_neg d5]
    exact ⟨S8, _, F_d_cell_p0 h.1.symm hpl q1 rfl e8.symm c0 c1 c2 c3 c4 c5, m1, r8⟩
  have d5 := dk_eqc z5 c5
  rw [if_pos d5]
  have fin : ∀ (T : dg_S) (y : Int32), F_w_isSafe o S8 pl = (T, y) → y.toInt = s_b (s_sf G K (G 0 3) A c) → RX o g G K A L U x T → ∃ (S1 : dg_S) (y : Int32), F_d_cell o S a1 a2 a3 = (S1, y) ∧ y.toInt = s_b (s_sf G K (G 0 3) A c) ∧ RX o g G K A L U x S1 := fun T y e hy hr => ⟨T, F_flag o T y, F_d_cell_p7 h.1.symm hpl q1 rfl e8.symm c0 c1 c2 c3 c4 c5 (by rw [e]) (show y = _ by rw [e]) rfl, fl _ _ _ hy, hr⟩
  have hgb := ok.1.1.1
  have ecd := cx_canBeDug (o := o) (a := pl) r8.2.2.1.1 (by omega) (by omega)
  rw [p3, show c + 8 - 8 = c by omega] at ecd
  by_cases w1 : F_p_canBeDug o S8 3 pl = (0 : Int32)
  · rw [w1, z0] at ecd
    refine fin S8 0 (F_w_isSafe_p2 i8.1.symm rfl w1) ?_ r8
    rw [z0, s_b0 (fun z => by
      rw [s_b1 z.1] at ecd
      exact absurd ecd (by decide))]
  have hcd : s_so G A c ∧ 0 < s_ob G A c := by
    apply Classical.byContradiction
    intro z
    rw [s_b0 z] at ecd
    exact w1 (dk_eqp z0 ecd)
  obtain ⟨S6, e6, k6, env6⟩ := cx_tell (o := o) (a := pl) pX_3' l7 rL.2.2.1.1 lL (by omega) (by rw [p3, show c + 8 - 8 = c by omega]; exact hcd.1) rL.2.2.1.2.1
  rw [p3, show c + 8 - 8 = c by omega] at env6
  have l66 : zR o S6 214 6 = g := by rw [k6.R (fun z => by omega)]; exact l6
  have r6 : RX o g G K A L U x S6 := rL.keep k6 (by decide) (by decide) (fun a b _ _ => by omega) (fun b => by omega) (fun b => by omega) (fun a b _ _ => by omega) (fun a _ _ => id) (fun a _ _ => id) id (fun a _ _ => id)
  have w1n : (1 : Int32).toNatClampNeg = 1 := by decide +kernel
  have hcode := r6.2.1.1.2.2.2 1 (by decide)
  by_cases hK1 : K 1 = []
  · rw [hK1] at hcode
    have ev := cx_value0 (o := o) (a1 := 1) (a2 := 0) w1n hcode
    exact fin S6 1 (F_w_isSafe_p1 i8.1.symm rfl w1 eL.symm e6.symm i8.2.1.symm (by rw [ev]) (by rw [ev]) rfl) (by rw [z1, s_b1 ⟨hcd, fun z => z.1 hK1⟩]) r6
  obtain ⟨hty, -, h4⟩ := ok.2.1 1 (by decide) hK1
  have h4 := h4 (by decide)
  have n4 : ∀ s ∈ K 1, s ≠ -4 := fun s hs z => h4 (by rw [← z]; exact hs)
  have evs : ∀ s ∈ K 1, -7 ≤ s → s < 0 → cx_env S6 s = s_env G A (G 0 3) c s := fun s hs h7 h0 => env6 s (n4 s hs) h7 h0
  have bnd : ∀ s ∈ K 1, -6 ≤ s → s < 0 → -1000000 ≤ cx_env S6 s ∧ cx_env S6 s ≤ 1000000 := fun s hs h6 h0 => by
    rw [evs s hs (by omega) h0]
    exact s_env_b ok.2.2.1.1 p4.1 ⟨hcd.1.2, u⟩ (n4 s hs)
  obtain ⟨S10, x9, e10, v10, k10⟩ := cx_value (o := o) (a1 := 1) (a2 := 0) r6.2.1.1.1 w1n hcode hK1 hty bnd
  have v01 := s_ev_01 (show cx_env S6 (-7) = 1 from rfl) bnd hty
  have r10 : RX o g G K A L U x S10 := r6.keep k10 (by decide) (by decide) (fun a b _ _ => by omega) (fun b => by omega) (fun b => by omega) (fun a b _ _ => by omega) (fun a _ _ => by omega) (fun a _ _ => by omega) (by decide) (fun a _ _ => by omega)
  by_cases w9 : x9 = (0 : Int32)
  · have v9 := dk_eqc z0 w9
    refine fin S10 1 (F_w_isSafe_p1 i8.1.symm rfl w1 eL.symm e6.symm i8.2.1.symm (by rw [e10]) (by rw [e10]) w9) ?_ r10
    have nf : ¬ s_fa G K (G 0 3) A c := fun z => by
      have := z.2
      rw [← s_ev_congr evs] at this
      omega
    rw [z1, s_b1 ⟨hcd, nf⟩]
  · have v9 := dk_neqc z0 w9
    refine fin S10 0 (F_w_isSafe_p0 i8.1.symm rfl w1 eL.symm e6.symm i8.2.1.symm (by rw [e10]) (by rw [e10]) w9) ?_ r10
    have yf : s_fa G K (G 0 3) A c := ⟨hK1, by rw [← s_ev_congr evs]; omega⟩
    rw [z0, s_b0 (fun z => z.2 yf)]
end CZ
