/-! light spoils what lies beside it -/
theorem e_run_vt {env : Int → Int} (h7 : env (-7) = 1) : ∀ (C : List Int) (q : e_S) (t t' : List Bool), (∀ s ∈ C, -6 ≤ s → s < 0 → -1000000 ≤ env s ∧ env s ≤ 1000000) → e_ty C t = some t' → e_vt q.1 t → q.2 = t.length → t.length ≤ 60 → e_vt (e_run env C q).1 t'
  | [], q, t, t', hb, ht, hv, hn, h60 => by
    have e : t = t' := Option.some.inj ht
    subst e
    exact hv
  | s :: C, q, t, t', hb, ht, hv, hn, h60 => by
    obtain ⟨t1, ht1, hty1⟩ := Option.bind_eq_some_iff.mp (show (e_t1 s t).bind (e_ty C) = some t' from ht)
    rcases e_step (hb s (List.mem_cons_self ..)) h7 ht1 hv hn with ⟨v1, n1, l1⟩ | h
    · exact e_run_vt h7 C (e_st env s q) t1 t' (fun s' hs => hb s' (List.mem_cons_of_mem _ hs)) hty1 v1 n1 l1
    · omega
theorem s_ev_b {env : Int → Int} {C : List Int} {b : Bool} (h7 : env (-7) = 1) (hb : ∀ s ∈ C, -6 ≤ s → s < 0 → -1000000 ≤ env s ∧ env s ≤ 1000000) (ht : e_ty C [] = some [b]) : -1000000 ≤ s_ev env C ∧ s_ev env C ≤ 1000000 := by
  have h := e_run_vt h7 C (fun _ => 0, 0) [] [b] hb ht trivial rfl (by decide)
  exact (show e_v1 b _ from h.1).any
noncomputable def s_sv (G : aR) (K : Nat → List Int) (r : Int) (A : aR) (c : Int) : Int := s_if (K 0 = []) 1 (s_ev (s_env G A r c) (K 0))
noncomputable def s_spD (G : aR) (K : Nat → List Int) (r : Int) (A : aR) (D : Int → Prop) : aR := fun a b => s_if (a = 1 ∧ D b ∧ s_so G A b ∧ s_nl G A r b ≠ -1) (max 0 (s_c A b - max 0 (s_sv G K r A b))) (A a b)
/-- what light spoils -/
noncomputable def s_sp (G : aR) (K : Nat → List Int) (r : Int) (A : aR) : aR := s_spD G K r A (fun _ => True)
def k_ex (p : Nat) (S S1 : dg_S) : Prop := kp (fun a _ => a = 215) (fun a => a = 216 ∨ a = p + 1) S S1
section XN
variable {G A A' : aR} {K : Nat → List Int} {S0 S S1 : dg_S} {o g p : Nat} {r c x v : Int} {D D' : Int → Prop}
theorem s_spD_c {d : Int} (hd : 0 ≤ d) : s_c (s_spD G K r A D) d = s_if (D d ∧ s_so G A d ∧ s_nl G A r d ≠ -1) (max 0 (s_c A d - max 0 (s_sv G K r A d))) (s_c A d) := by
  have e : ((d.toNat : Nat) : Int) = d := by omega
  show s_spD G K r A D 1 d.toNat = _
  unfold s_spD
  rw [e]
  by_cases h : D d ∧ s_so G A d ∧ s_nl G A r d ≠ -1
  · rw [s_if_y ⟨rfl, h⟩, s_if_y h]
  · rw [s_if_n (fun z => h z.2), s_if_n h]
    rfl
theorem s_spD_congr (h : ∀ c, s_so G A c → s_nl G A r c ≠ -1 → (D c ↔ D' c)) : s_spD G K r A D = s_spD G K r A D' := by
  funext a b
  unfold s_spD
  by_cases q : a = 1 ∧ D b ∧ s_so G A b ∧ s_nl G A r b ≠ -1
  · rw [s_if_y q, s_if_y ⟨q.1, (h _ q.2.2.1 q.2.2.2).mp q.2.1, q.2.2⟩]
  · rw [s_if_n q, s_if_n (fun z => q ⟨z.1, (h _ z.2.2.1 z.2.2.2).mpr z.2.1, z.2.2⟩)]
theorem cx_sp1 (hp : pX p) (hS : zR o S0 214 7 = p) (hgr : zR o S0 214 6 = g) (hG : s_gw G) (hK : s_cd K) (hw : s_wf G A) (hg : cx_gt G K S g) (hsh : (zI S0 p 0).toInt = A 0 0) (hl : cx_light G A r S) (h4 : zI S0 214 4 = zI S 214 4) (hc : cx_ce G (s_spD G K r A D) S p) (hA : cx_ce G A S0 p) {i : Nat} {k : Int32} (hk : k.toInt = i) (hi : (i : Int) < (zI S 214 4).toInt) (hD : ¬ D (cx_ex S i - 8)) : ∃ S1, F_w_spoilExposed_B1 S0 o (k, S) = .inl (k + 1, S1) ∧ k_ex p S S1 ∧ cx_ce G (s_spD G K r A (fun c => D c ∨ c = cx_ex S i - 8)) S1 p := by
  have sep := pX_sep hp
  have sepg := rX_sep hg.1
  have z0 : (0 : Int32).toInt = 0 := by decide +kernel
  obtain ⟨-, lb, ec, hec, e72, le1, le2, le3⟩ := id hl
  obtain ⟨x, hx⟩ : ∃ x, x = cx_ex S i := ⟨_, rfl⟩
  obtain ⟨x0, xs, xb⟩ := le1 i (by omega)
  rw [← hx] at x0 xs xb hD
  have x56 := s_in_56 hG.1.2 xs.1
  have ekn : k.toNatClampNeg = i := by rw [dk_clN]; omega
  have c0 : ¬ zI S0 214 4 ≤ k := fun z => by
    have := dk_lec (k := k.toInt) rfl z
    rw [h4] at this
    omega
  obtain ⟨a, ha⟩ : ∃ a, a = S.2.1 219 k.toNatClampNeg := ⟨_, rfl⟩
  have ea : a.toInt = x := by rw [ha, ekn, hx]; rfl
  have ean : a.toNatClampNeg = x.toNat := by rw [dk_clN, ea]
  have nl1 : s_nl G A r (x - 8) ≠ -1 := fun z => by
    rcases lb x x0.1 x0.2 with y | y
    · exact xb y.1
    · omega
  have scn : s_c (s_spD G K r A D) (x - 8) = s_c A (x - 8) := by
    rw [s_spD_c (by omega), s_if_n (fun z => hD z.1)]
  have sc9 := ((hA x x0.1 x0.2).1 xs.1).2.2
  have xs2 := xs.2
  have cell : (S.2.1 (p + 1) a.toNatClampNeg).toInt = s_c A (x - 8) := by
    have h := ((hc x x0.1 x0.2).1 xs.1).1
    rw [scn] at h
    rw [ean]
    unfold cx_at cx_en at h
    rw [if_neg (by omega), if_neg (by omega)] at h
    exact h
  have newD : ∀ d, d ≠ x - 8 → 0 ≤ d → s_c (s_spD G K r A (fun c => D c ∨ c = x - 8)) d = s_c (s_spD G K r A D) d := fun d hd h0 => by
    rw [s_spD_c h0, s_spD_c h0]
    by_cases y : D d ∧ s_so G A d ∧ s_nl G A r d ≠ -1
    · rw [s_if_y y, s_if_y ⟨Or.inl y.1, y.2⟩]
    · rw [s_if_n y, s_if_n (fun z => by
        rcases z.1 with q | q
        · exact y ⟨q, z.2⟩
        · exact hd q)]
  have newx : s_c (s_spD G K r A (fun c => D c ∨ c = x - 8)) (x - 8) = max 0 (s_c A (x - 8) - max 0 (s_sv G K r A (x - 8))) := by
    rw [s_spD_c (by omega), s_if_y ⟨Or.inr rfl, xs, nl1⟩]
  rw [← hx]
  by_cases q1 : S.2.1 (p + 1) a.toNatClampNeg ≤ (0 : Int32)
  · have q1' := dk_lec (k := 0) z0 q1
    refine ⟨S, (F_w_spoilExposed_p2 rfl c0 ha hS.symm rfl q1).trans (F_w_spoilExposed_p1 rfl), kp.rf, fun z a0 a1 => ?_⟩
    obtain ⟨h1, h2⟩ := hc z a0 a1
    refine ⟨fun hz => ?_, h2⟩
    by_cases y : z = x
    · subst y
      rw [newx]
      rw [scn] at h1
      rw [show max 0 (s_c A (z - 8) - max 0 (s_sv G K r A (z - 8))) = s_c A (z - 8) by omega]
      exact h1 hz
    · rw [newD _ (by omega) hz.1.1]
      exact h1 hz
  · have q1' := dk_nlec (k := 0) z0 q1
    obtain ⟨S5, hS5⟩ : ∃ S5, S5 = dg_uF S 215 0 (.int (S.2.1 (p + 1) a.toNatClampNeg)) := ⟨_, rfl⟩
    obtain ⟨S7, hS7⟩ : ∃ S7, S7 = dg_uF S5 215 1 (.int (F_rowOf o S5 a)) := ⟨_, rfl⟩
    obtain ⟨S8, hS8⟩ : ∃ S8, S8 = dg_uF S7 215 2 (.int (zI S0 p 0)) := ⟨_, rfl⟩
    obtain ⟨S9, hS9⟩ : ∃ S9, S9 = dg_uF S8 215 3 (.int (S8.2.1 218 a.toNatClampNeg)) := ⟨_, rfl⟩
    have r8 : S8.2.1 = S.2.1 := by rw [hS8, hS7, hS5]; rfl
    have r9 : S9.2.1 = S.2.1 := by rw [hS9]; exact r8
    have k9 : k_te S S9 := by
      rw [hS9, hS8, hS7, hS5]
      exact kp.uF (kp.uF (kp.uF (kp.uF kp.rf rfl) rfl) rfl) rfl
    have ebm : (S8.2.1 218 a.toNatClampNeg).toInt = s_nl G A r (x - 8) := by
      rw [r8, ean]
      rcases lb x x0.1 x0.2 with y | y
      · exact absurd y.1 xb
      · exact y.1
    have env9 : ∀ s, s ≠ -5 → s ≠ -6 → cx_env S9 s = s_env G A r (x - 8) s := by
      intro s s5 s6
      have v0 : zI S9 215 0 = S.2.1 (p + 1) a.toNatClampNeg := by
        rw [hS9, w_I0 (by decide), hS8, w_I0 (by decide), hS7, w_I0 (by decide), hS5, w_I, if_pos ⟨rfl, rfl⟩]
      have v1 : zI S9 215 1 = F_rowOf o S5 a := by
        rw [hS9, w_I0 (by decide), hS8, w_I0 (by decide), hS7, w_I, if_pos ⟨rfl, rfl⟩]
      have v2 : zI S9 215 2 = zI S0 p 0 := by
        rw [hS9, w_I0 (by decide), hS8, w_I, if_pos ⟨rfl, rfl⟩]
      have v3 : zI S9 215 3 = S8.2.1 218 a.toNatClampNeg := by
        rw [hS9, w_I, if_pos ⟨rfl, rfl⟩]
      have ero := cx_rowOf (o := o) (S := S5) (a := a) (by omega) (by omega)
      unfold cx_env s_env
      rw [v0, v1, v2, v3, cell, ero, hsh, ebm, ea, show x / 8 - 1 = (x - 8) / 8 by omega]
      by_cases c1 : s = -1
      · rw [if_pos c1, if_pos c1]
      rw [if_neg c1, if_neg c1]
      by_cases c2 : s = -2
      · rw [if_pos c2, if_pos c2]
      rw [if_neg c2, if_neg c2]
      by_cases c3 : s = -3
      · rw [if_pos c3, if_pos c3]
      rw [if_neg c3, if_neg c3]
      by_cases c4 : s = -4
      · rw [if_pos c4, if_pos c4]
      rw [if_neg c4, if_neg c4, if_neg s5, if_neg s5, if_neg s6, if_neg s6]
    have bnd : ∀ s, s ≠ -5 → s ≠ -6 → -1000000 ≤ s_env G A r (x - 8) s ∧ s_env G A r (x - 8) s ≤ 1000000 := fun s s5 s6 => by
      by_cases c4 : s = -4
      · rw [c4]
        show -1000000 ≤ s_nl G A r (x - 8) ∧ s_nl G A r (x - 8) ≤ 1000000
        rcases lb x x0.1 x0.2 with y | y <;> omega
      · exact s_env_b hw ⟨by omega, by omega⟩ ⟨xs2, sc9⟩ c4
    obtain ⟨S3, x2, e3, k3, v2⟩ : ∃ (S3 : dg_S) (x2 : Int32), F_r_valueOf o S9 g (0 : Int32) (1 : Int32) = (S3, x2) ∧ k_ru S9 S3 ∧ x2.toInt = s_sv G K r A (x - 8) := by
      have w0n : (0 : Int32).toNatClampNeg = 0 := by decide +kernel
      have hcode := (hg.2.2.2 0 (by decide)).keep (S1 := S9) (fun i _ _ => by rw [r9])
      unfold s_sv
      by_cases hK0 : K 0 = []
      · rw [hK0] at hcode
        refine ⟨S9, 1, cx_value0 w0n hcode, kp.rf, ?_⟩
        rw [s_if_y hK0]
        decide +kernel
      · obtain ⟨ty, n56, -⟩ := hK 0 (by decide) hK0
        obtain ⟨n5, n6⟩ := n56 rfl
        obtain ⟨S3, v, e, ev, k⟩ := cx_value (o := o) (a2 := 1) hg.1 w0n hcode hK0 ty (fun s hs _ _ => by
          rw [env9 s (fun z => n5 (by rw [← z]; exact hs)) (fun z => n6 (by rw [← z]; exact hs))]
          exact bnd s (fun z => n5 (by rw [← z]; exact hs)) (fun z => n6 (by rw [← z]; exact hs)))
        refine ⟨S3, v, e, k, ?_⟩
        rw [s_if_n hK0, ev]
        exact s_ev_congr (fun s hs _ _ => env9 s (fun z => n5 (by rw [← z]; exact hs)) (fun z => n6 (by rw [← z]; exact hs)))
    have svb : -1000000 ≤ s_sv G K r A (x - 8) ∧ s_sv G K r A (x - 8) ≤ 1000000 := by
      unfold s_sv
      by_cases hK0 : K 0 = []
      · rw [s_if_y hK0]
        omega
      · obtain ⟨ty, n56, -⟩ := hK 0 (by decide) hK0
        obtain ⟨n5, n6⟩ := n56 rfl
        rw [s_if_n hK0]
        exact s_ev_b rfl (fun s hs _ _ => bnd s (fun z => n5 (by rw [← z]; exact hs)) (fun z => n6 (by rw [← z]; exact hs))) ty
    obtain ⟨x4, hx4⟩ : ∃ x4, x4 = if (0 : Int32) < x2 then x2 else (0 : Int32) := ⟨_, rfl⟩
    obtain ⟨x7, hx7⟩ : ∃ x7, x7 = if (0 : Int32) < S.2.1 (p + 1) a.toNatClampNeg - x4 then S.2.1 (p + 1) a.toNatClampNeg - x4 else (0 : Int32) := ⟨_, rfl⟩
    have mx : ∀ y : Int32, (if (0 : Int32) < y then y else (0 : Int32)).toInt = max 0 y.toInt := fun y => by
      by_cases q : (0 : Int32) < y
      · have := dk_gtc (k := 0) z0 q
        rw [if_pos q]
        omega
      · have := dk_ngtc (k := 0) z0 q
        rw [if_neg q, z0]
        omega
    have e4 : x4.toInt = max 0 (s_sv G K r A (x - 8)) := by rw [hx4, mx, v2]
    have e6 : (S.2.1 (p + 1) a.toNatClampNeg - x4).toInt = s_c A (x - 8) - max 0 (s_sv G K r A (x - 8)) := dk_subT cell e4 (by omega) (by omega)
    have e7 : x7.toInt = max 0 (s_c A (x - 8) - max 0 (s_sv G K r A (x - 8))) := by rw [hx7, mx, e6]
    obtain ⟨S2, hS2⟩ : ∃ S2, S2 = dg_uf S3 (p + 1) (upd (S3.2.1 (p + 1)) a.toNatClampNeg x7) := ⟨_, rfl⟩
    have row3 : ∀ i, i ≠ 216 → S3.2.1 i = S.2.1 i := fun i hi => by rw [k3.row hi, r9]
    have e3a : S3 = (F_r_valueOf o S9 g (0 : Int32) (1 : Int32)).1 := by rw [e3]
    have e3b : x2 = (F_r_valueOf o S9 g (0 : Int32) (1 : Int32)).2 := by rw [e3]
    refine ⟨S2, ?_, ?_, fun z a0 a1 => ?_⟩
    · rw [F_w_spoilExposed_p4 rfl c0 ha hS.symm rfl q1 hS5 rfl hS7 rfl hS8 rfl hS9, F_w_spoilExposed_p3 hgr.symm e3a e3b hx4 rfl hx7 hS2]
      exact F_w_spoilExposed_p1 rfl
    · rw [hS2]
      exact kp.uf ((k9.w (fun a b z => z) (fun a z => absurd z id)).tr (k3.w (fun a b z => z.1) (fun a z => Or.inl z))) (Or.inr rfl)
    · have ec2 : cx_at S2 p z = if z = x then x7.toInt else cx_at S p z := by
        unfold cx_at
        rw [hS2, w_f, if_pos rfl, w_u, row3 _ (by omega), ean]
        by_cases y : z = x
        · rw [if_pos (by omega), if_pos y]
        · rw [if_neg (by omega), if_neg y]
      obtain ⟨h1, h2⟩ := hc z a0 a1
      rw [ec2]
      by_cases y : z = x
      · subst y
        rw [if_pos rfl, newx, e7]
        refine ⟨fun _ => ⟨?_, by omega, by omega⟩, fun n => absurd xs.1 n⟩
        unfold cx_en
        rw [if_neg (by omega), if_neg (by omega)]
      · rw [if_neg y]
        refine ⟨fun hz => ?_, h2⟩
        rw [newD _ (by omega) hz.1.1]
        exact h1 hz
end XN
