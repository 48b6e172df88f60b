/-! the class digs: what a rule tells of a cell -/
theorem rX_sep {g : Nat} (h : rX g) : 185 ≤ g ∧ g + 11 ≤ 208 := by
  have h1 : ∀ g ∈ alX.getD 0 [], 185 ≤ g ∧ g + 11 ≤ 208 := by decide +kernel
  exact h1 g h
/-- a rule's steps as they lie in a ground -/
def cx_code (S : dg_S) (g w : Nat) (C : List Int) : Prop := ∃ fr : Int, 0 ≤ fr ∧ fr + C.length ≤ 1600 ∧ (S.2.1 (g + 10) w).toInt = fr ∧ (S.2.1 (g + 11) w).toInt = fr + C.length ∧ ∀ i, i < C.length → (S.2.1 (g + 9) (fr.toNat + i)).toInt = C.getD i 0
theorem e_run_congr {env env' : Int → Int} : ∀ (C : List Int) (q : e_S), (∀ s ∈ C, -7 ≤ s → s < 0 → env s = env' s) → e_run env C q = e_run env' C q
  | [], _, _ => rfl
  | s :: C, q, h => by
    have e : e_st env s q = e_st env' s q := by
      unfold e_st
      by_cases c0 : 0 ≤ s
      · rw [if_pos c0, if_pos c0]
      · rw [if_neg c0, if_neg c0]
        by_cases c1 : -7 ≤ s
        · rw [if_pos c1, if_pos c1, h s (List.mem_cons_self ..) c1 (by omega)]
        · rw [if_neg c1, if_neg c1]
    show e_run env C (e_st env s q) = e_run env' C (e_st env' s q)
    rw [e]
    exact e_run_congr C _ (fun s' hs => h s' (List.mem_cons_of_mem _ hs))
theorem s_ev_congr {env env' : Int → Int} {C : List Int} (h : ∀ s ∈ C, -7 ≤ s → s < 0 → env s = env' s) : s_ev env C = s_ev env' C := by
  unfold s_ev
  rw [e_run_congr C _ h]
section XK
variable {G A : aR} {S S1 : dg_S} {o g p : Nat} {a1 a2 a : Int32} {w : Nat} {C : List Int} {env : Int → Int} {b : Bool} {r c : Int}
theorem cx_hasRule (hw : a1.toNatClampNeg = w) (h : cx_code S g w C) : (F_g_hasRule o S g a1 = 0 ↔ C = []) := by
  obtain ⟨fr, f0, f1, f2, f3, -⟩ := h
  by_cases q : S.2.1 (g + 11) a1.toNatClampNeg ≤ S.2.1 (g + 10) a1.toNatClampNeg
  · have := w_le.mp q
    rw [hw] at this
    rw [F_g_hasRule_p0 rfl rfl q]
    refine ⟨fun _ => List.eq_nil_of_length_eq_zero (by omega), fun _ => rfl⟩
  · have : ¬ (S.2.1 (g + 11) a1.toNatClampNeg).toInt ≤ (S.2.1 (g + 10) a1.toNatClampNeg).toInt := fun z => q (w_le.mpr z)
    rw [hw] at this
    rw [F_g_hasRule_p1 rfl rfl q]
    refine ⟨fun z => absurd z (by decide +kernel), fun z => ?_⟩
    rw [z] at f3
    have : (([] : List Int).length : Int) = 0 := rfl
    omega
theorem cx_value0 (hw : a1.toNatClampNeg = w) (h : cx_code S g w []) : F_r_valueOf o S g a1 a2 = (S, a2) := F_r_valueOf_p10 rfl ((cx_hasRule hw h).mpr rfl)
theorem cx_value (hg : rX g) (hw : a1.toNatClampNeg = w) (h : cx_code S g w C) (hC : C ≠ []) (hty : e_ty C [] = some [b]) (hb : ∀ s ∈ C, -6 ≤ s → s < 0 → -1000000 ≤ cx_env S s ∧ cx_env S s ≤ 1000000) : ∃ (S1 : dg_S) (v : Int32), F_r_valueOf o S g a1 a2 = (S1, v) ∧ v.toInt = s_ev (cx_env S) C ∧ k_ru S S1 := by
  have sep := rX_sep hg
  have q : ¬ F_g_hasRule o S g a1 = (0 : Int32) := fun z => hC ((cx_hasRule hw h).mp z)
  obtain ⟨fr, f0, f1, f2, f3, f4⟩ := h
  obtain ⟨S5, hS5⟩ : ∃ S5, S5 = dg_uF S 215 7 (.int (0 : Int32)) := ⟨_, rfl⟩
  have k5 : k_ru S S5 := by rw [hS5]; exact kp.uF kp.rf ⟨rfl, rfl⟩
  have r5 : ∀ i, S5.2.1 i = S.2.1 i := fun i => by rw [hS5, w_Ff]
  have s5 : cx_st S5 (fun _ => 0, 0) := ⟨by rw [hS5, w_I, if_pos ⟨rfl, rfl⟩]; decide +kernel, fun i hi => absurd hi (Nat.not_lt_zero i)⟩
  have efr : (S5.2.1 (g + 10) a1.toNatClampNeg).toInt = fr := by rw [r5, hw]; exact f2
  obtain ⟨S1, v, e1, ev, k1⟩ := cx_vrun (o := o) (a1 := a1) (z := (S, (0 : Int32))) (env := cx_env S) (g := g) ⟨by omega, by omega⟩ (show cx_env S (-7) = 1 from rfl) C (S5.2.1 (g + 10) a1.toNatClampNeg) S5 (fun _ => 0) [] ((1601 - ((S5.2.1 (g + 10) a1.toNatClampNeg : Int32)).toInt).toNat + 1) (fun i hi => by
    rw [r5, dk_clN, efr]
    exact f4 i hi) (by rw [efr, r5, hw]; exact f3) (by omega) (by omega) s5 trivial (by decide) hty hb k5.env (by omega)
  refine ⟨S1, v, ?_, ev, k5.tr k1⟩
  rw [F_r_valueOf_p9 rfl q hS5 rfl]
  exact e1
theorem cx_rowOf (h0 : 0 ≤ a.toInt) (h1 : a.toInt < 72) : (F_rowOf o S a).toInt = a.toInt / 8 - 1 := by
  have key : ∀ n : Nat, n < 72 → (Int32.ofInt (n : Int) >>> ((3 : Int32) &&& 31)).toInt = (n : Int) / 8 := by decide +kernel
  have e1 := key a.toInt.toNat (by omega)
  rw [show ((a.toInt.toNat : Nat) : Int) = a.toInt by omega, Int32.ofInt_toInt] at e1
  rw [F_rowOf_p0 rfl rfl]
  exact dk_subT e1 (by decide +kernel) (by omega) (by omega)
/-- what is asked of a cell -/
noncomputable def s_env (G A : aR) (r c : Int) : Int → Int := fun s => if s = -1 then s_c A c else if s = -2 then c / 8 else if s = -3 then A 0 0 else if s = -4 then s_nl G A r c else if s = -5 then s_ob G A c else if s = -6 then (if s_nl G A r c = -1 then 0 else 1) else 1
def k_te (S S1 : dg_S) : Prop := kp (fun a _ => a = 215) (fun _ => False) S S1
theorem cx_tell (hp : pX p) (hS : zR o S 214 7 = p) (hc : cx_ce G A S p) (hl : cx_light G A r S) (ha : 8 ≤ a.toInt ∧ a.toInt ≤ 63) (hso : s_so G A (a.toInt - 8)) (hsh : (zI S p 0).toInt = A 0 0) : ∃ S1, F_w_tellDigging o S a = S1 ∧ k_te S S1 ∧ ∀ s, s ≠ -4 → -7 ≤ s → s < 0 → cx_env S1 s = s_env G A r (a.toInt - 8) s := by
  have sep := pX_sep hp
  obtain ⟨S4, hS4⟩ : ∃ S4, S4 = dg_uF S 215 0 (.int (S.2.1 (p + 1) a.toNatClampNeg)) := ⟨_, rfl⟩
  obtain ⟨S7, hS7⟩ : ∃ S7, S7 = dg_uF S4 215 1 (.int (F_rowOf o S4 a)) := ⟨_, rfl⟩
  obtain ⟨S9, hS9⟩ : ∃ S9, S9 = dg_uF S7 215 2 (.int (zI S p 0)) := ⟨_, rfl⟩
  obtain ⟨S12, hS12⟩ : ∃ S12, S12 = dg_uF S9 215 4 (.int (F_p_openBeside o S9 p a)) := ⟨_, rfl⟩
  have r9 : S9.2.1 = S.2.1 := by rw [hS9, hS7, hS4]; rfl
  have r12 : S12.2.1 = S.2.1 := by rw [hS12]; exact r9
  have c9 : cx_ce G A S9 p := hc.keep (by rw [r9])
  have eob := cx_openBeside (o := o) (a := a) c9 ha.1 ha.2
  have ero := cx_rowOf (o := o) (S := S4) (a := a) (by omega) (by omega)
  have eg : (S.2.1 (p + 1) a.toNatClampNeg).toInt = s_c A (a.toInt - 8) := hc.val (x := a.toInt) (by omega) (by omega) hso
  have k12 : k_te S S12 := by
    rw [hS12, hS9, hS7, hS4]
    exact kp.uF (kp.uF (kp.uF (kp.uF kp.rf rfl) rfl) rfl) rfl
  have v0 : zI S12 215 0 = S.2.1 (p + 1) a.toNatClampNeg := by
    rw [hS12, w_I, if_neg (by decide), hS9, w_I, if_neg (by decide), hS7, w_I, if_neg (by decide), hS4, w_I, if_pos ⟨rfl, rfl⟩]
  have v1 : zI S12 215 1 = F_rowOf o S4 a := by
    rw [hS12, w_I, if_neg (by decide), hS9, w_I, if_neg (by decide), hS7, w_I, if_pos ⟨rfl, rfl⟩]
  have v2 : zI S12 215 2 = zI S p 0 := by
    rw [hS12, w_I, if_neg (by decide), hS9, w_I, if_pos ⟨rfl, rfl⟩]
  have v4 : zI S12 215 4 = F_p_openBeside o S9 p a := by
    rw [hS12, w_I, if_pos ⟨rfl, rfl⟩]
  have fin : ∀ (x : Int32), x.toInt = (if s_nl G A r (a.toInt - 8) = -1 then 0 else 1) → ∀ s, s ≠ -4 → -7 ≤ s → s < 0 → cx_env (dg_uF S12 215 5 (.int x)) s = s_env G A r (a.toInt - 8) s := by
    intro x hx s h4 h7 h0
    unfold cx_env s_env
    have J : ∀ k, k ≠ 5 → zI (dg_uF S12 215 5 (.int x)) 215 k = zI S12 215 k := fun k hk => w_I0 (fun z => hk z.2)
    have J5 : zI (dg_uF S12 215 5 (.int x)) 215 5 = x := by rw [w_I, if_pos ⟨rfl, rfl⟩]
    rw [J 0 (by decide), J 1 (by decide), J 2 (by decide), J 3 (by decide), J 4 (by decide), J5, v0, v1, v2, v4, eg, ero, hsh, eob, hx]
    rw [show a.toInt / 8 - 1 = (a.toInt - 8) / 8 by omega]
    by_cases c1 : s = -1
    · rw [if_pos c1, if_pos c1]
    · rw [if_neg c1, if_neg c1]
      by_cases c2 : s = -2
      · rw [if_pos c2, if_pos c2]
      · rw [if_neg c2, if_neg c2]
        by_cases c3 : s = -3
        · rw [if_pos c3, if_pos c3]
        · rw [if_neg c3, if_neg c3, if_neg h4, if_neg h4]
  have hb := hl.2.1 a.toInt (by omega) (by omega)
  have ebm : cx_bm S a.toInt = (S12.2.1 218 a.toNatClampNeg).toInt := by rw [r12]; rfl
  by_cases q : (1000 : Int32) ≤ S12.2.1 218 a.toNatClampNeg
  · have q1 := dk_gec (k := 1000) (by decide +kernel) q
    refine ⟨dg_uF S12 215 5 (.int (0 : Int32)), ?_, k12.uF rfl, fin 0 ?_⟩
    · rw [F_w_tellDigging_p2 hS.symm rfl hS4 rfl hS7 rfl hS9 rfl hS12]
      exact F_w_tellDigging_p0 rfl q rfl
    · rw [if_pos (by omega)]
      decide +kernel
  · have q1 := dk_ngec (k := 1000) (by decide +kernel) q
    refine ⟨dg_uF S12 215 5 (.int (1 : Int32)), ?_, k12.uF rfl, fin 1 ?_⟩
    · rw [F_w_tellDigging_p2 hS.symm rfl hS4 rfl hS7 rfl hS9 rfl hS12]
      exact F_w_tellDigging_p1 rfl q rfl
    · rw [if_neg (by omega)]
      decide +kernel
end XK
