/-! what the reference has been told -/
def GSv (S : dg_S) (i : Nat) : y_S := (((S.2.1 2 i).toInt, (S.2.1 3 i).toInt), m_nm (S.2.2 20) (6 * i) (S.2.1 8 i).toNatClampNeg, (S.2.1 9 i).toNatClampNeg, m_nm (S.2.2 21) (5 * i) (S.2.1 12 i).toNatClampNeg, (decide ((S.2.1 16 (3 * i)).toInt ≠ -1), decide ((S.2.1 16 (3 * i + 1)).toInt ≠ -1), decide ((S.2.1 16 (3 * i + 2)).toInt ≠ -1)))
def GSM (σ : y_S) (S : dg_S) : Prop := ∃ i : Int32, S.1 0 35 = .int i ∧ 0 ≤ i.toInt ∧ σ = GSv S i.toNatClampNeg ∧ m_nok (S.2.2 20) (6 * i.toNatClampNeg) (S.2.1 8 i.toNatClampNeg).toNatClampNeg ∧ m_nok (S.2.2 21) (5 * i.toNatClampNeg) (S.2.1 12 i.toNatClampNeg).toNatClampNeg
section GSS
variable {σ σ' : y_S} {S S1 : dg_S} {WF : List (Nat × Nat)} {WA : List Nat} {ii mi od pl cc rr fk f1 f2 : Int32} {tb : Nat → Int32} {n k k1 k2 : Nat} {kd vl : Nat → Int32}
theorem GSM.keep (h : GSM σ S) (m : dg_sm shM WF WA S S1) (h35 : (0, 35) ∉ WF) (k2 : 2 ∉ WA) (k3 : 3 ∉ WA) (k8 : 8 ∉ WA) (k9 : 9 ∉ WA) (k12 : 12 ∉ WA) (k16 : 16 ∉ WA) (k20 : 20 ∉ WA) (k21 : 21 ∉ WA) : GSM σ S1 := by
  obtain ⟨i, f, b, e, o1, o2⟩ := h
  refine ⟨i, (m.1 0 35 _ sM_0 h35).trans f, b, ?_, ?_, ?_⟩
  · rw [e]
    unfold GSv
    rw [(m.2 2 _ sM_2 k2).1, (m.2 3 _ sM_3 k3).1, (m.2 8 _ sM_8 k8).1, (m.2 9 _ sM_9 k9).1, (m.2 12 _ sM_12 k12).1, (m.2 16 _ sM_16 k16).1, (m.2 20 _ sM_20 k20).2, (m.2 21 _ sM_21 k21).2]
  · rw [(m.2 8 _ sM_8 k8).1, (m.2 20 _ sM_20 k20).2]
    exact o1
  · rw [(m.2 12 _ sM_12 k12).1, (m.2 21 _ sM_21 k21).2]
    exact o2
theorem GSM.at (h : GSM σ S) (fi : S.1 0 35 = .int ii) : 0 ≤ ii.toInt ∧ σ = GSv S ii.toNatClampNeg ∧ m_nok (S.2.2 20) (6 * ii.toNatClampNeg) (S.2.1 8 ii.toNatClampNeg).toNatClampNeg ∧ m_nok (S.2.2 21) (5 * ii.toNatClampNeg) (S.2.1 12 ii.toNatClampNeg).toNatClampNeg := by
  obtain ⟨i, f, r⟩ := h
  cases fi.symm.trans f
  exact r
theorem GSM.cols (h : GSM σ S) (fi : S.1 0 35 = .int ii) (fc : S.2.1 2 ii.toNatClampNeg = cc) (fr : S.2.1 3 ii.toNatClampNeg = rr) : σ.1 = (cc.toInt, rr.toInt) := by
  obtain ⟨-, e, -⟩ := h.at fi
  rw [e]
  unfold GSv
  rw [fc, fr]
theorem GSM.miners (h : GSM σ S) (fi : S.1 0 35 = .int ii) (fm : S.2.1 8 ii.toNatClampNeg = mi) : σ.2.1.length = mi.toNatClampNeg := by
  obtain ⟨-, e, -⟩ := h.at fi
  rw [e]
  unfold GSv
  rw [fm]
  exact m_nm_len
theorem GSM.plans (h : GSM σ S) (fi : S.1 0 35 = .int ii) (fp : S.2.1 9 ii.toNatClampNeg = pl) : σ.2.2.1 = pl.toNatClampNeg := by
  obtain ⟨-, e, -⟩ := h.at fi
  rw [e]
  unfold GSv
  rw [fp]
theorem GSM.orders (h : GSM σ S) (fi : S.1 0 35 = .int ii) (fo : S.2.1 12 ii.toNatClampNeg = od) : σ.2.2.2.1.length = od.toNatClampNeg := by
  obtain ⟨-, e, -⟩ := h.at fi
  rw [e]
  unfold GSv
  rw [fo]
  exact m_nm_len
/-- a name among the MINERS', among all -/
theorem GSM.miner (h : GSM σ S) (fi : S.1 0 35 = .int ii) (fm : S.2.1 8 ii.toNatClampNeg = mi) {p v : Int} (hp : p = m_WF v) (hv : m_WG p = v) : σ.2.1.contains v = true ↔ ∃ j : Nat, j < mi.toNatClampNeg ∧ (S.2.2 20 (6 * ii.toNatClampNeg + j)).toInt = p := by
  obtain ⟨-, e, o1, -⟩ := h.at fi
  rw [e]
  unfold GSv
  rw [fm] at o1 ⊢
  exact m_nm_has o1 hp hv
theorem GSM.named (h : GSM σ S) (fi : S.1 0 35 = .int ii) (fm : S.2.1 8 ii.toNatClampNeg = mi) (fo : S.2.1 12 ii.toNatClampNeg = od) {p v : Int} (hp : p = m_WF v) (hv : m_WG p = v) : (σ.2.1.contains v || σ.2.2.2.1.contains v) = true ↔ ((∃ j : Nat, j < od.toNatClampNeg ∧ (S.2.2 21 (5 * ii.toNatClampNeg + j)).toInt = p) ∨ ∃ j : Nat, j < mi.toNatClampNeg ∧ (S.2.2 20 (6 * ii.toNatClampNeg + j)).toInt = p) := by
  have a := h.miner fi fm hp hv
  obtain ⟨-, e, -, o2⟩ := h.at fi
  have b : σ.2.2.2.1.contains v = true ↔ ∃ j : Nat, j < od.toNatClampNeg ∧ (S.2.2 21 (5 * ii.toNatClampNeg + j)).toInt = p := by
    rw [e]
    unfold GSv
    rw [fo] at o2 ⊢
    exact m_nm_has o2 hp hv
  rw [Bool.or_eq_true, a, b]
  exact Or.comm
/-- two NUMBERS: a cell -/
theorem CE (h1 : f1.toInt = 0 → m_an f1 (y_num kd vl 0 (cc.toInt - 1) k) k1) (h2 : f1.toInt = 0 → m_an f2 (y_num kd vl 0 (rr.toInt - 1) k1) k2) (h3 : f1.toInt ≠ 0 → f2.toInt ≠ 0) (h4 : f1.toInt ≠ 0 → y_num kd vl 0 (cc.toInt - 1) k = none) : m_an f2 (y_cell kd vl (cc.toInt, rr.toInt) k) k2 := by
  unfold y_cell
  by_cases q : f1.toInt = 0
  · have a := (h1 q).1 q
    rw [a]
    exact h2 q
  · rw [h4 q]
    exact m_an.no (h3 q) rfl
theorem CE2 {hi hi2 : Int} (h1 : m_an f1 (y_num kd vl 0 hi k) k1) (h2 : f1.toInt = 0 → m_an f2 (y_num kd vl 0 hi2 k1) k2) (h3 : f1.toInt ≠ 0 → f2.toInt ≠ 0) (e1 : hi = cc.toInt - 1) (e2 : hi2 = rr.toInt - 1) : m_an f2 (y_cell kd vl (cc.toInt, rr.toInt) k) k2 := by
  rw [e1] at h1
  rw [e2] at h2
  exact CE (fun _ => h1) h2 h3 h1.2
/-- a name to be given -/
theorem FRE {sg sa : Int32} {wd : Int64} (TK : TKM tb n S) (G : GSM σ S) (f3 : S.1 0 3 = .int sg) (f4 : S.1 0 4 = .int sa) (f7 : S.1 0 7 = .long wd) (h5 : (T_kd tb n (t_ix tb n sa.toNatClampNeg)).toInt ≠ 5) : (sg.toInt = 1 ∧ ¬ m_ow wd.toInt = true ↔ (T_kd tb n (t_ix tb n sa.toNatClampNeg)).toInt = 2) ∧ ((T_kd tb n (t_ix tb n sa.toNatClampNeg)).toInt = 2 → wd.toInt = m_WF (T_vl tb n (t_ix tb n sa.toNatClampNeg)).toInt ∧ m_WG wd.toInt = (T_vl tb n (t_ix tb n sa.toNatClampNeg)).toInt) := by
  obtain ⟨a, b⟩ := TK.nam f3 f4 f7 h5
  refine ⟨?_, b⟩
  rw [a, m_ow_ex]
  constructor
  · rintro ⟨c, d⟩
    exact ⟨c, fun j hj e => d ⟨j, hj, e⟩⟩
  · rintro ⟨c, d⟩
    exact ⟨c, fun ⟨j, hj, e⟩ => d j hj e⟩
theorem FR.y {M O : List Int} {v : Int} {N : Prop} (h2 : (kd k).toInt = 2) (hv : (vl k).toInt = v) (hn : (M.contains v || O.contains v) = true ↔ N) (h : ¬ N) (h8 : fk.toInt = 0) (hK : k1 = k + 1) : m_an fk (y_new kd vl M O k) k1 :=
  m_an.y h8 (by
    rw [hK]
    refine y_new_t h2 hv ?_
    cases q : (M.contains v || O.contains v) with
    | false => rfl
    | true => exact absurd (hn.mp q) h)
theorem FR.no2 {M O : List Int} (h : (kd k).toInt ≠ 2) (h8 : fk.toInt ≠ 0) : m_an fk (y_new kd vl M O k) k1 := m_an.no h8 (y_new_f h)
theorem FR.no3 {M O : List Int} {v : Int} {N : Prop} (hv : (vl k).toInt = v) (hn : (M.contains v || O.contains v) = true ↔ N) (h : N) (h8 : fk.toInt ≠ 0) : m_an fk (y_new kd vl M O k) k1 := m_an.no h8 (y_new_f2 hv (hn.mpr h))
/-! what a STATEMENT's method comes to -/
def SOK (tb : Nat → Int32) (n : Nat) (fk : Int32) (T : Option (y_S × Nat)) (S' : dg_S) : Prop := fk.toInt = 0 → ∀ f a : Int32, S'.1 0 8 = .int f → S'.1 0 4 = .int a → (f.toInt = 0 → ∃ σ' : y_S, GSM σ' S' ∧ T = some (σ', t_ix tb n a.toNatClampNeg)) ∧ (f.toInt ≠ 0 → T = none ∨ ∃ (σ' : y_S) (k' : Nat), T = some (σ', k') ∧ (T_kd tb n k').toInt = 5)
theorem m_an.bind {E : Option Nat} {g : Nat → Option Nat} (h1 : m_an f1 E k1) (h2 : f1.toInt = 0 → m_an f2 (g k1) k2) (h3 : f1.toInt ≠ 0 → f2.toInt ≠ 0) : m_an f2 (E.bind g) k2 := by
  by_cases q : f1.toInt = 0
  · rw [h1.1 q]
    exact h2 q
  · rw [h1.2 q]
    exact m_an.no (h3 q) rfl
theorem m_an.to {E E' : Option Nat} (h : m_an fk E k) (e : E' = E) : m_an fk E' k := by
  rw [e]
  exact h
theorem SOK.mk {y8 y4 : Int32} {T : Option (y_S × Nat)} {P : Prop} [Decidable P] {E : Option Nat} (p8 : S1.1 0 8 = .int y8) (p4 : S1.1 0 4 = .int y4) (hp : fk.toInt = 0 → P → y8.toInt ≠ 0) (hE : fk.toInt = 0 → ¬ P → m_an y8 E (t_ix tb n y4.toNatClampNeg)) (hG : fk.toInt = 0 → y8.toInt = 0 → ¬ P → GSM σ' S1) (hT : T = if P then none else E.map fun k' => (σ', k')) : SOK tb n fk T S1 := by
  intro h0 f a q8 q4
  cases p8.symm.trans q8
  cases p4.symm.trans q4
  by_cases z : P
  · rw [hT, if_pos z]
    exact ⟨fun q => absurd q (hp h0 z), fun _ => Or.inl rfl⟩
  · have e := hE h0 z
    rw [hT, if_neg z]
    refine ⟨fun q => ⟨σ', hG h0 q z, by rw [e.1 q]; rfl⟩, fun q => Or.inl (by rw [e.2 q]; rfl)⟩
theorem SOK.mk0 {y8 y4 : Int32} {T : Option (y_S × Nat)} {E : Option Nat} (p8 : S1.1 0 8 = .int y8) (p4 : S1.1 0 4 = .int y4) (hE : fk.toInt = 0 → m_an y8 E (t_ix tb n y4.toNatClampNeg)) (hG : fk.toInt = 0 → y8.toInt = 0 → GSM σ' S1) (hT : T = E.map fun k' => (σ', k')) : SOK tb n fk T S1 :=
  SOK.mk (P := False) p8 p4 (fun _ q => absurd q id) (fun h _ => hE h) (fun h q _ => hG h q) (by rw [hT, if_neg id])
/-! what is written -/
theorem vpL_at {f : Nat → Int64} {k : Nat} {v : Int64} : vp_updL f k v k = v := by
  unfold vp_updL
  simp
theorem vpL_ne {f : Nat → Int64} {k j : Nat} {v : Int64} (h : j ≠ k) : vp_updL f k v j = f j := by
  unfold vp_updL
  simp [h]
theorem GSM.w20 {x : Int32} {v : Int64} (G : GSM σ S) (fi : S.1 0 35 = .int ii) (fm : S.2.1 8 ii.toNatClampNeg = mi) (e : S1 = dg_ul S 20 (vp_updL (S.2.2 20) x.toNatClampNeg v)) (hx : x.toInt = 6 * ii.toInt + mi.toInt) (hm : 0 ≤ mi.toInt) : GSM σ S1 ∧ S1.2.2 20 (6 * ii.toNatClampNeg + mi.toNatClampNeg) = v := by
  obtain ⟨h0, e0, o1, o2⟩ := G.at fi
  have c1 := dk_clN ii
  have c2 := dk_clN mi
  have c3 := dk_clN x
  have e20 : S1.2.2 20 = vp_updL (S.2.2 20) x.toNatClampNeg v := dg_ul_at e
  have e21 : S1.2.2 21 = S.2.2 21 := dg_ul_ne e (by decide)
  have ef : ∀ a, S1.2.1 a = S.2.1 a := dg_ul_f e
  have st : ∀ j, j < mi.toNatClampNeg → S1.2.2 20 (6 * ii.toNatClampNeg + j) = S.2.2 20 (6 * ii.toNatClampNeg + j) := fun j hj => by rw [e20, vpL_ne (by omega)]
  refine ⟨⟨ii, (dg_ul_F e 0 35).trans fi, h0, ?_, ?_, ?_⟩, ?_⟩
  · rw [e0]
    unfold GSv
    rw [ef 2, ef 3, ef 8, ef 9, ef 12, ef 16, e21, fm, m_nm_congr st]
  · rw [ef 8, fm]
    rw [fm] at o1
    intro j hj
    rw [st j hj]
    exact o1 j hj
  · rw [ef 12, e21]
    exact o2
  · rw [e20, show 6 * ii.toNatClampNeg + mi.toNatClampNeg = x.toNatClampNeg by omega, vpL_at]
theorem GSM.w21 {x : Int32} {v : Int64} (G : GSM σ S) (fi : S.1 0 35 = .int ii) (fo : S.2.1 12 ii.toNatClampNeg = od) (e : S1 = dg_ul S 21 (vp_updL (S.2.2 21) x.toNatClampNeg v)) (hx : x.toInt = 5 * ii.toInt + od.toInt) (hm : 0 ≤ od.toInt) : GSM σ S1 ∧ S1.2.2 21 (5 * ii.toNatClampNeg + od.toNatClampNeg) = v := by
  obtain ⟨h0, e0, o1, o2⟩ := G.at fi
  have c1 := dk_clN ii
  have c2 := dk_clN od
  have c3 := dk_clN x
  have e21 : S1.2.2 21 = vp_updL (S.2.2 21) x.toNatClampNeg v := dg_ul_at e
  have e20 : S1.2.2 20 = S.2.2 20 := dg_ul_ne e (by decide)
  have ef : ∀ a, S1.2.1 a = S.2.1 a := dg_ul_f e
  have st : ∀ j, j < od.toNatClampNeg → S1.2.2 21 (5 * ii.toNatClampNeg + j) = S.2.2 21 (5 * ii.toNatClampNeg + j) := fun j hj => by rw [e21, vpL_ne (by omega)]
  refine ⟨⟨ii, (dg_ul_F e 0 35).trans fi, h0, ?_, ?_, ?_⟩, ?_⟩
  · rw [e0]
    unfold GSv
    rw [ef 2, ef 3, ef 8, ef 9, ef 12, ef 16, e20, fo, m_nm_congr st]
  · rw [ef 8, e20]
    exact o1
  · rw [ef 12, fo]
    rw [fo] at o2
    intro j hj
    rw [st j hj]
    exact o2 j hj
  · rw [e21, show 5 * ii.toNatClampNeg + od.toNatClampNeg = x.toNatClampNeg by omega, vpL_at]
theorem m_nok_add {row : Nat → Int64} {off m : Nat} (h : m_nok row off m) (h2 : m_WF (m_WG (row (off + m)).toInt) = (row (off + m)).toInt) : m_nok row off (m + 1) := fun j hj => by
  by_cases q : j = m
  · rw [q]; exact h2
  · exact h j (by omega)
theorem GSM.c8 {mi' : Int32} {v : Int64} (G : GSM σ S) (fi : S.1 0 35 = .int ii) (fm : S.2.1 8 ii.toNatClampNeg = mi) (hv : S.2.2 20 (6 * ii.toNatClampNeg + mi.toNatClampNeg) = v) (hk : m_WF (m_WG v.toInt) = v.toInt) (e : S1 = dg_uf S 8 (upd (S.2.1 8) ii.toNatClampNeg mi')) (hm : mi'.toInt = mi.toInt + 1) (h0m : 0 ≤ mi.toInt) : GSM (σ.1, σ.2.1 ++ [m_WG v.toInt], σ.2.2) S1 := by
  obtain ⟨h0, e0, o1, o2⟩ := G.at fi
  have c2 := dk_clN mi
  have c3 := dk_clN mi'
  have e8 : S1.2.1 8 = upd (S.2.1 8) ii.toNatClampNeg mi' := dg_uf_at e
  have e8i : S1.2.1 8 ii.toNatClampNeg = mi' := by rw [e8, y_upd_at]
  have el : ∀ a, S1.2.2 a = S.2.2 a := dg_uf_l e
  have mm : mi'.toNatClampNeg = mi.toNatClampNeg + 1 := by omega
  rw [fm] at o1
  refine ⟨ii, (dg_uf_F e 0 35).trans fi, h0, ?_, ?_, ?_⟩
  · rw [e0]
    unfold GSv
    rw [e8i, fm, mm, dg_uf_ne e (a := 2) (by decide), dg_uf_ne e (a := 3) (by decide), dg_uf_ne e (a := 9) (by decide), dg_uf_ne e (a := 12) (by decide), dg_uf_ne e (a := 16) (by decide), el 21, m_nm_add (row := S.2.2 20) (row' := S1.2.2 20) (v := v) (fun j _ => by rw [el 20]) (by rw [el 20]; exact hv)]
  · rw [e8i, mm, el 20]
    exact m_nok_add o1 (by rw [hv]; exact hk)
  · rw [dg_uf_ne e (a := 12) (by decide), el 21]
    exact o2
theorem GSM.c12 {od' : Int32} {v : Int64} (G : GSM σ S) (fi : S.1 0 35 = .int ii) (fo : S.2.1 12 ii.toNatClampNeg = od) (hv : S.2.2 21 (5 * ii.toNatClampNeg + od.toNatClampNeg) = v) (hk : m_WF (m_WG v.toInt) = v.toInt) (e : S1 = dg_uf S 12 (upd (S.2.1 12) ii.toNatClampNeg od')) (hm : od'.toInt = od.toInt + 1) (h0m : 0 ≤ od.toInt) : GSM (σ.1, σ.2.1, σ.2.2.1, σ.2.2.2.1 ++ [m_WG v.toInt], σ.2.2.2.2) S1 := by
  obtain ⟨h0, e0, o1, o2⟩ := G.at fi
  have c2 := dk_clN od
  have c3 := dk_clN od'
  have e8 : S1.2.1 12 = upd (S.2.1 12) ii.toNatClampNeg od' := dg_uf_at e
  have e8i : S1.2.1 12 ii.toNatClampNeg = od' := by rw [e8, y_upd_at]
  have el : ∀ a, S1.2.2 a = S.2.2 a := dg_uf_l e
  have mm : od'.toNatClampNeg = od.toNatClampNeg + 1 := by omega
  rw [fo] at o2
  refine ⟨ii, (dg_uf_F e 0 35).trans fi, h0, ?_, ?_, ?_⟩
  · rw [e0]
    unfold GSv
    rw [e8i, fo, mm, dg_uf_ne e (a := 2) (by decide), dg_uf_ne e (a := 3) (by decide), dg_uf_ne e (a := 8) (by decide), dg_uf_ne e (a := 9) (by decide), dg_uf_ne e (a := 16) (by decide), el 20, m_nm_add (row := S.2.2 21) (row' := S1.2.2 21) (v := v) (fun j _ => by rw [el 21]) (by rw [el 21]; exact hv)]
  · rw [dg_uf_ne e (a := 8) (by decide), el 20]
    exact o1
  · rw [e8i, mm, el 21]
    exact m_nok_add o2 (by rw [hv]; exact hk)
theorem GSM.c9 {pl' : Int32} (G : GSM σ S) (fi : S.1 0 35 = .int ii) (fp : S.2.1 9 ii.toNatClampNeg = pl) (e : S1 = dg_uf S 9 (upd (S.2.1 9) ii.toNatClampNeg pl')) (hm : pl'.toInt = pl.toInt + 1) (h0m : 0 ≤ pl.toInt) : GSM (σ.1, σ.2.1, σ.2.2.1 + 1, σ.2.2.2) S1 := by
  obtain ⟨h0, e0, o1, o2⟩ := G.at fi
  have c2 := dk_clN pl
  have c3 := dk_clN pl'
  have e8i : S1.2.1 9 ii.toNatClampNeg = pl' := by rw [dg_uf_at e, y_upd_at]
  have el : ∀ a, S1.2.2 a = S.2.2 a := dg_uf_l e
  refine ⟨ii, (dg_uf_F e 0 35).trans fi, h0, ?_, ?_, ?_⟩
  · rw [e0]
    unfold GSv
    rw [e8i, fp, show pl'.toNatClampNeg = pl.toNatClampNeg + 1 by omega, dg_uf_ne e (a := 2) (by decide), dg_uf_ne e (a := 3) (by decide), dg_uf_ne e (a := 8) (by decide), dg_uf_ne e (a := 12) (by decide), dg_uf_ne e (a := 16) (by decide), el 20, el 21]
  · rw [dg_uf_ne e (a := 8) (by decide), el 20]
    exact o1
  · rw [dg_uf_ne e (a := 12) (by decide), el 21]
    exact o2
theorem GSM.c2 {c : Int32} (G : GSM σ S) (fi : S.1 0 35 = .int ii) (e : S1 = dg_uf S 2 (upd (S.2.1 2) ii.toNatClampNeg c)) : GSM ((c.toInt, σ.1.2), σ.2) S1 := by
  obtain ⟨h0, e0, o1, o2⟩ := G.at fi
  have e8i : S1.2.1 2 ii.toNatClampNeg = c := by rw [dg_uf_at e, y_upd_at]
  have el : ∀ a, S1.2.2 a = S.2.2 a := dg_uf_l e
  refine ⟨ii, (dg_uf_F e 0 35).trans fi, h0, ?_, ?_, ?_⟩
  · rw [e0]
    unfold GSv
    rw [e8i, dg_uf_ne e (a := 3) (by decide), dg_uf_ne e (a := 8) (by decide), dg_uf_ne e (a := 9) (by decide), dg_uf_ne e (a := 12) (by decide), dg_uf_ne e (a := 16) (by decide), el 20, el 21]
  · rw [dg_uf_ne e (a := 8) (by decide), el 20]
    exact o1
  · rw [dg_uf_ne e (a := 12) (by decide), el 21]
    exact o2
theorem GSM.c3 {c : Int32} (G : GSM σ S) (fi : S.1 0 35 = .int ii) (e : S1 = dg_uf S 3 (upd (S.2.1 3) ii.toNatClampNeg c)) : GSM ((σ.1.1, c.toInt), σ.2) S1 := by
  obtain ⟨h0, e0, o1, o2⟩ := G.at fi
  have e8i : S1.2.1 3 ii.toNatClampNeg = c := by rw [dg_uf_at e, y_upd_at]
  have el : ∀ a, S1.2.2 a = S.2.2 a := dg_uf_l e
  refine ⟨ii, (dg_uf_F e 0 35).trans fi, h0, ?_, ?_, ?_⟩
  · rw [e0]
    unfold GSv
    rw [e8i, dg_uf_ne e (a := 2) (by decide), dg_uf_ne e (a := 8) (by decide), dg_uf_ne e (a := 9) (by decide), dg_uf_ne e (a := 12) (by decide), dg_uf_ne e (a := 16) (by decide), el 20, el 21]
  · rw [dg_uf_ne e (a := 8) (by decide), el 20]
    exact o1
  · rw [dg_uf_ne e (a := 12) (by decide), el 21]
    exact o2
/-- a rule is told -/
def GSr (r : Bool × Bool × Bool) (w : Int) : Bool × Bool × Bool := (if w = 0 then true else r.1, if w = 1 then true else r.2.1, if w = 2 then true else r.2.2)
theorem GSM.c16 {x w c : Int32} (G : GSM σ S) (fi : S.1 0 35 = .int ii) (e : S1 = dg_uf S 16 (upd (S.2.1 16) x.toNatClampNeg c)) (hx : x.toInt = 3 * ii.toInt + w.toInt) (hw : 0 ≤ w.toInt ∧ w.toInt ≤ 2) (hc : c.toInt ≠ -1) : GSM (σ.1, σ.2.1, σ.2.2.1, σ.2.2.2.1, GSr σ.2.2.2.2 w.toInt) S1 := by
  obtain ⟨h0, e0, o1, o2⟩ := G.at fi
  have c1 := dk_clN ii
  have c2 := dk_clN x
  have el : ∀ a, S1.2.2 a = S.2.2 a := dg_uf_l e
  have e16 : S1.2.1 16 = upd (S.2.1 16) x.toNatClampNeg c := dg_uf_at e
  have key : ∀ j : Nat, j ≤ 2 → decide ((S1.2.1 16 (3 * ii.toNatClampNeg + j)).toInt ≠ -1) = if w.toInt = (j : Int) then true else decide ((S.2.1 16 (3 * ii.toNatClampNeg + j)).toInt ≠ -1) := fun j hj => by
    by_cases q : w.toInt = (j : Int)
    · rw [if_pos q, e16, show 3 * ii.toNatClampNeg + j = x.toNatClampNeg by omega, y_upd_at, decide_eq_true hc]
    · rw [if_neg q, e16, y_upd_ne (by omega)]
  refine ⟨ii, (dg_uf_F e 0 35).trans fi, h0, ?_, ?_, ?_⟩
  · rw [e0]
    have k0 := key 0 (by decide)
    have k1 := key 1 (by decide)
    have k2 := key 2 (by decide)
    unfold GSv GSr
    rw [dg_uf_ne e (a := 2) (by decide), dg_uf_ne e (a := 3) (by decide), dg_uf_ne e (a := 8) (by decide), dg_uf_ne e (a := 9) (by decide), dg_uf_ne e (a := 12) (by decide), el 20, el 21]
    have k0' : decide ((S1.2.1 16 (3 * ii.toNatClampNeg)).toInt ≠ -1) = if w.toInt = 0 then true else decide ((S.2.1 16 (3 * ii.toNatClampNeg)).toInt ≠ -1) := k0
    have k1' : decide ((S1.2.1 16 (3 * ii.toNatClampNeg + 1)).toInt ≠ -1) = if w.toInt = 1 then true else decide ((S.2.1 16 (3 * ii.toNatClampNeg + 1)).toInt ≠ -1) := k1
    have k2' : decide ((S1.2.1 16 (3 * ii.toNatClampNeg + 2)).toInt ≠ -1) = if w.toInt = 2 then true else decide ((S.2.1 16 (3 * ii.toNatClampNeg + 2)).toInt ≠ -1) := k2
    rw [k0', k1', k2']
  · rw [dg_uf_ne e (a := 8) (by decide), el 20]
    exact o1
  · rw [dg_uf_ne e (a := 12) (by decide), el 21]
    exact o2
theorem GSM.rule {x w v : Int32} (G : GSM σ S) (fi : S.1 0 35 = .int ii) (fx : S.2.1 16 x.toNatClampNeg = v) (hx : x.toInt = 3 * ii.toInt + w.toInt) (hw : 0 ≤ w.toInt ∧ w.toInt ≤ 2) : (w.toInt = 0 → σ.2.2.2.2.1 = decide (v.toInt ≠ -1)) ∧ (w.toInt = 1 → σ.2.2.2.2.2.1 = decide (v.toInt ≠ -1)) ∧ (w.toInt = 2 → σ.2.2.2.2.2.2 = decide (v.toInt ≠ -1)) := by
  obtain ⟨h0, e0, o1, o2⟩ := G.at fi
  have c1 := dk_clN ii
  have c2 := dk_clN x
  rw [e0]
  unfold GSv
  refine ⟨fun q => ?_, fun q => ?_, fun q => ?_⟩
  · show decide ((S.2.1 16 (3 * ii.toNatClampNeg)).toInt ≠ -1) = _
    rw [show 3 * ii.toNatClampNeg = x.toNatClampNeg by omega, fx]
  · show decide ((S.2.1 16 (3 * ii.toNatClampNeg + 1)).toInt ≠ -1) = _
    rw [show 3 * ii.toNatClampNeg + 1 = x.toNatClampNeg by omega, fx]
  · show decide ((S.2.1 16 (3 * ii.toNatClampNeg + 2)).toInt ≠ -1) = _
    rw [show 3 * ii.toNatClampNeg + 2 = x.toNatClampNeg by omega, fx]
end GSS
