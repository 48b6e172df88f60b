/-! what is told of a ground, and STATEMENTS as the class reads them -/
def y_gx (cx ry : Int32) (fm : Nat → Int32) (mi pl : Int32) (fo : Nat → Int32) (od : Int32) (fr fe : Nat → Int32) : y_S := ((cx.toInt, ry.toInt), y_nm fm mi.toNatClampNeg, pl.toNatClampNeg, y_nm fo od.toNatClampNeg, (decide ((fr 0).toInt < (fe 0).toInt), decide ((fr 1).toInt < (fe 1).toInt), decide ((fr 2).toInt < (fe 2).toInt)))
/-- 1: the STATEMENT is taken, σ' is told, the next token is y; else there is none -/
def y_ok (r : Int32) (T : Option (y_S × Nat)) (σ' : y_S) (k y : Nat) : Prop := (r.toInt = 1 → T = some (σ', y) ∧ k < y) ∧ (r.toInt ≠ 1 → T = none)
section YZ
variable {kd vl fm fo fr fe fm' fo' fr' fe' : Nat → Int32} {cx ry mi pl od cx' ry' mi' pl' od' r a1 : Int32} {i k y : Nat} {σ' : y_S}
theorem y_rs {E : Option Nat} {T : Option (y_S × Nat)} (h : g_ans r E y) (e : T = E.map fun k' => (σ', k')) (hl : r.toInt = 1 → k < y) : y_ok r T σ' k y := by
  rw [e]
  exact ⟨fun q => ⟨by rw [h.1 q]; rfl, hl q⟩, fun q => by rw [h.2 q]; rfl⟩
theorem y_ok.no {T : Option (y_S × Nat)} (hr : r.toInt = 0) (h : T = none) : y_ok r T σ' k y := ⟨fun q => absurd q (by omega), fun _ => h⟩
theorem y_num_l {lo hi : Int} {k' : Nat} (h : y_num kd vl lo hi k = some k') : k < k' := by
  have := (y_num_o h).2.2.2
  omega
theorem y_own_l {c : Int} {k' : Nat} (h : y_own kd vl c k = some k') : k < k' := by
  have := (y_own_o h).2
  omega
theorem y_new_l {M O : List Int} {k' : Nat} (h : y_new kd vl M O k = some k') : k < k' := by
  have := (y_new_o h).2
  omega
theorem y_old_l {M : List Int} {k' : Nat} (h : y_old kd vl M k = some k') : k < k' := by
  unfold y_old at h
  split at h
  · cases h
    exact Nat.lt_succ_self k
  · cases h
theorem y_cell_l {q : Int × Int} {k' : Nat} (h : y_cell kd vl q k = some k') : k < k' := by
  unfold y_cell at h
  obtain ⟨j, h1, h2⟩ := g_bind h
  exact Nat.lt_trans (y_num_l h1) (y_num_l h2)
theorem y_one_n (hi : i ≠ 0) {σ : y_S} : y_one kd vl i σ k = y_st kd vl σ k := by
  unfold y_one
  rw [if_neg hi]
theorem y_ok_2 (hi : i ≠ 0) (hk : (kd k).toInt = 1) (hv : (vl k).toInt = 2) (h : g_ans r (y_num kd vl 0 (cx.toInt - 1) (k + 1)) y) : y_ok r (y_one kd vl i (y_gx cx ry fm mi pl fo od fr fe) k) (y_gx cx ry fm mi pl fo od fr fe) k y :=
  y_rs h ((y_one_n hi).trans (y_st_2 hk hv)) fun q => Nat.lt_trans (Nat.lt_succ_self k) (y_num_l (h.1 q))
theorem y_ok_3 (hi : i ≠ 0) (hk : (kd k).toInt = 1) (hv : (vl k).toInt = 3) (h : g_ans r (y_num kd vl 0 20 (k + 1)) y) : y_ok r (y_one kd vl i (y_gx cx ry fm mi pl fo od fr fe) k) (y_gx cx ry fm mi pl fo od fr fe) k y :=
  y_rs h ((y_one_n hi).trans (y_st_3 hk hv)) fun q => Nat.lt_trans (Nat.lt_succ_self k) (y_num_l (h.1 q))
theorem y_ok_4 (hi : i ≠ 0) (hk : (kd k).toInt = 1) (hv : (vl k).toInt = 4) (h : g_ans r (y_num kd vl 0 100 (k + 1)) y) : y_ok r (y_one kd vl i (y_gx cx ry fm mi pl fo od fr fe) k) (y_gx cx ry fm mi pl fo od fr fe) k y :=
  y_rs h ((y_one_n hi).trans (y_st_4 hk hv)) fun q => Nat.lt_trans (Nat.lt_succ_self k) (y_num_l (h.1 q))
theorem y_ok_5 (hi : i ≠ 0) (hk : (kd k).toInt = 1) (hv : (vl k).toInt = 5) (h : g_ans r ((y_cell kd vl (cx.toInt, ry.toInt) (k + 1)).bind (y_num kd vl 0 9)) y) : y_ok r (y_one kd vl i (y_gx cx ry fm mi pl fo od fr fe) k) (y_gx cx ry fm mi pl fo od fr fe) k y :=
  y_rs h ((y_one_n hi).trans (y_st_5 hk hv)) fun q => by
    obtain ⟨j, h1, h2⟩ := g_bind (h.1 q)
    have := y_cell_l h1
    have := y_num_l h2
    omega
theorem y_if {P : Prop} [Decidable P] {E : Option Nat} {f : Nat → y_S × Nat} : (if P then none else E.map f) = (if P then (none : Option Nat) else E).map f := by
  by_cases q : P
  · rw [if_pos q, if_pos q]
    rfl
  · rw [if_neg q, if_neg q]
theorem y_ifs {P : Prop} [Decidable P] {E : Option Nat} (h : (if P then (none : Option Nat) else E) = some y) : E = some y := by
  by_cases q : P
  · rw [if_pos q] at h
    cases h
  · rw [if_neg q] at h
    exact h
theorem y_ok_6 (hi : i ≠ 0) (hk : (kd k).toInt = 1) (hv : (vl k).toInt = 6) (h0 : 0 ≤ mi.toInt) (h : g_ans r (if mi.toInt = 6 then none else y_new kd vl (y_nm fm mi.toNatClampNeg) (y_nm fo od.toNatClampNeg) (k + 1)) y) (hm : r.toInt = 1 → mi'.toInt = mi.toInt + 1) (hf : r.toInt = 1 → ∃ v9 : Int32, v9.toInt = (vl (k + 1)).toInt ∧ fm' = upd fm mi.toNatClampNeg v9) : y_ok r (y_one kd vl i (y_gx cx ry fm mi pl fo od fr fe) k) (y_gx cx ry fm' mi' pl fo od fr fe) k y := by
  have e1 := dk_clN mi
  have e2 := dk_clN mi'
  have hP : ((y_nm fm mi.toNatClampNeg).length = 6) = (mi.toInt = 6) := by
    rw [y_nm_len]
    exact propext ⟨fun q => by omega, fun q => by omega⟩
  have hT := (y_one_n (kd := kd) (vl := vl) (k := k) hi (σ := y_gx cx ry fm mi pl fo od fr fe)).trans (y_st_6 hk hv)
  refine ⟨fun q => ⟨?_, ?_⟩, fun q => ?_⟩
  · obtain ⟨v9, hv9, ef⟩ := hf q
    rw [hT, y_if]
    simp only [hP]
    rw [h.1 q]
    unfold y_gx
    rw [ef, show mi'.toNatClampNeg = mi.toNatClampNeg + 1 by have := hm q; omega, y_nm_add, hv9]
    rfl
  · have := y_new_l (y_ifs (h.1 q))
    omega
  · rw [hT, y_if]
    simp only [hP]
    rw [h.2 q]
    rfl
theorem y_ok_7 (hi : i ≠ 0) (hk : (kd k).toInt = 1) (hv : (vl k).toInt = 7) (h0 : 0 ≤ pl.toInt) (h : g_ans r (if pl.toInt = 16 then none else ((y_old kd vl (y_nm fm mi.toNatClampNeg) (k + 1)).bind fun k1 => (y_own kd vl 8 k1).bind (y_cell kd vl (cx.toInt, ry.toInt)))) y) (hm : r.toInt = 1 → pl'.toInt = pl.toInt + 1) : y_ok r (y_one kd vl i (y_gx cx ry fm mi pl fo od fr fe) k) (y_gx cx ry fm mi pl' fo od fr fe) k y := by
  have e1 := dk_clN pl
  have e2 := dk_clN pl'
  have hP : (pl.toNatClampNeg = 16) = (pl.toInt = 16) := propext ⟨fun q => by omega, fun q => by omega⟩
  have hT := (y_one_n (kd := kd) (vl := vl) (k := k) hi (σ := y_gx cx ry fm mi pl fo od fr fe)).trans (y_st_7 hk hv)
  refine ⟨fun q => ⟨?_, ?_⟩, fun q => ?_⟩
  · rw [hT, y_if]
    simp only [hP]
    rw [h.1 q]
    unfold y_gx
    rw [show pl'.toNatClampNeg = pl.toNatClampNeg + 1 by have := hm q; omega]
    rfl
  · obtain ⟨j, h1, h2⟩ := g_bind (y_ifs (h.1 q))
    obtain ⟨j2, h3, h4⟩ := g_bind h2
    have := y_old_l h1
    have := y_own_l h3
    have := y_cell_l h4
    omega
  · rw [hT, y_if]
    simp only [hP]
    rw [h.2 q]
    rfl
theorem y_ok_9 (hi : i ≠ 0) (hk : (kd k).toInt = 1) (hv : (vl k).toInt = 9) (h0 : 0 ≤ od.toInt) (h : g_ans r (if od.toInt = 5 then none else ((y_new kd vl (y_nm fm mi.toNatClampNeg) (y_nm fo od.toNatClampNeg) (k + 1)).bind fun k1 => (y_own kd vl 5 k1).bind fun k2 => (y_num kd vl 0 9 k2).bind fun k3 => (y_own kd vl 10 k3).bind fun k4 => (y_num kd vl 1 9 k4).bind fun k5 => (y_own kd vl 11 k5).bind (y_num kd vl 0 999))) y) (hm : r.toInt = 1 → od'.toInt = od.toInt + 1) (hf : r.toInt = 1 → ∃ v9 : Int32, v9.toInt = (vl (k + 1)).toInt ∧ fo' = upd fo od.toNatClampNeg v9) : y_ok r (y_one kd vl i (y_gx cx ry fm mi pl fo od fr fe) k) (y_gx cx ry fm mi pl fo' od' fr fe) k y := by
  have e1 := dk_clN od
  have e2 := dk_clN od'
  have hP : ((y_nm fo od.toNatClampNeg).length = 5) = (od.toInt = 5) := by
    rw [y_nm_len]
    exact propext ⟨fun q => by omega, fun q => by omega⟩
  have hT := (y_one_n (kd := kd) (vl := vl) (k := k) hi (σ := y_gx cx ry fm mi pl fo od fr fe)).trans (y_st_9 hk hv)
  refine ⟨fun q => ⟨?_, ?_⟩, fun q => ?_⟩
  · obtain ⟨v9, hv9, ef⟩ := hf q
    rw [hT, y_if]
    simp only [hP]
    rw [h.1 q]
    unfold y_gx
    rw [ef, show od'.toNatClampNeg = od.toNatClampNeg + 1 by have := hm q; omega, y_nm_add, hv9]
    rfl
  · obtain ⟨j, h1, h2⟩ := g_bind (y_ifs (h.1 q))
    obtain ⟨j2, h3, h4⟩ := g_bind h2
    obtain ⟨j3, h5, h6⟩ := g_bind h4
    obtain ⟨j4, h7, h8⟩ := g_bind h6
    obtain ⟨j5, h9, h10⟩ := g_bind h8
    obtain ⟨j6, h11, h12⟩ := g_bind h10
    have := y_new_l h1
    have := y_own_l h3
    have := y_num_l h5
    have := y_own_l h7
    have := y_num_l h9
    have := y_own_l h11
    have := y_num_l h12
    omega
  · rw [hT, y_if]
    simp only [hP]
    rw [h.2 q]
    rfl
theorem y_upd_at {f : Nat → Int32} {j : Nat} {v : Int32} : upd f j v j = v := by
  unfold upd
  rw [if_pos rfl]
theorem y_upd_ne {f : Nat → Int32} {j i : Nat} {v : Int32} (h : i ≠ j) : upd f j v i = f i := by
  unfold upd
  rw [if_neg h]
theorem y_if2 {P : Prop} [Decidable P] {E : Option Nat} {f : Nat → y_S × Nat} : (if decide P = true then none else E.map f) = (if P then (none : Option Nat) else E).map f := by
  by_cases q : P
  · rw [if_pos q, if_pos (decide_eq_true q)]
    rfl
  · rw [if_neg q, if_neg (by rw [decide_eq_false q]; decide)]
theorem y_ok_r0 (hi : i ≠ 0) (hk : (kd k).toInt = 1) (hv : (vl k).toInt = 12) (ha : a1.toInt = 0) (h : g_ans r (if (fr a1.toNatClampNeg).toInt < (fe a1.toNatClampNeg).toInt then none else y_rule kd vl a1.toInt (k + 1)) y) (hu : r.toInt = 1 → ∃ c8 c9 : Int32, c8.toInt < c9.toInt ∧ fr' = upd fr a1.toNatClampNeg c8 ∧ fe' = upd fe a1.toNatClampNeg c9) (hl : r.toInt = 1 → k < y) : y_ok r (y_one kd vl i (y_gx cx ry fm mi pl fo od fr fe) k) (y_gx cx ry fm mi pl fo od fr' fe') k y := by
  have e1 := dk_clN a1
  rw [show a1.toNatClampNeg = 0 by omega] at h hu
  rw [ha] at h
  have hT := (y_one_n (kd := kd) (vl := vl) (k := k) hi (σ := y_gx cx ry fm mi pl fo od fr fe)).trans (y_st_12 hk hv)
  refine ⟨fun q => ⟨?_, hl q⟩, fun q => ?_⟩
  · obtain ⟨c8, c9, hc, ef, ee⟩ := hu q
    rw [hT, y_if2, h.1 q]
    unfold y_gx
    rw [ef, ee, y_upd_at, y_upd_at, decide_eq_true hc, y_upd_ne (i := 1) (by decide), y_upd_ne (i := 1) (by decide), y_upd_ne (i := 2) (by decide), y_upd_ne (i := 2) (by decide)]
    rfl
  · rw [hT, y_if2, h.2 q]
    rfl
theorem y_ok_r1 (hi : i ≠ 0) (hk : (kd k).toInt = 1) (hv : (vl k).toInt = 13) (ha : a1.toInt = 1) (h : g_ans r (if (fr a1.toNatClampNeg).toInt < (fe a1.toNatClampNeg).toInt then none else y_rule kd vl a1.toInt (k + 1)) y) (hu : r.toInt = 1 → ∃ c8 c9 : Int32, c8.toInt < c9.toInt ∧ fr' = upd fr a1.toNatClampNeg c8 ∧ fe' = upd fe a1.toNatClampNeg c9) (hl : r.toInt = 1 → k < y) : y_ok r (y_one kd vl i (y_gx cx ry fm mi pl fo od fr fe) k) (y_gx cx ry fm mi pl fo od fr' fe') k y := by
  have e1 := dk_clN a1
  rw [show a1.toNatClampNeg = 1 by omega] at h hu
  rw [ha] at h
  have hT := (y_one_n (kd := kd) (vl := vl) (k := k) hi (σ := y_gx cx ry fm mi pl fo od fr fe)).trans (y_st_13 hk hv)
  refine ⟨fun q => ⟨?_, hl q⟩, fun q => ?_⟩
  · obtain ⟨c8, c9, hc, ef, ee⟩ := hu q
    rw [hT, y_if2, h.1 q]
    unfold y_gx
    rw [ef, ee, y_upd_at, y_upd_at, decide_eq_true hc, y_upd_ne (i := 0) (by decide), y_upd_ne (i := 0) (by decide), y_upd_ne (i := 2) (by decide), y_upd_ne (i := 2) (by decide)]
    rfl
  · rw [hT, y_if2, h.2 q]
    rfl
theorem y_ok_r2 (hi : i ≠ 0) (hk : (kd k).toInt = 1) (hv : (vl k).toInt = 14) (ha : a1.toInt = 2) (h : g_ans r (if (fr a1.toNatClampNeg).toInt < (fe a1.toNatClampNeg).toInt then none else y_rule kd vl a1.toInt (k + 1)) y) (hu : r.toInt = 1 → ∃ c8 c9 : Int32, c8.toInt < c9.toInt ∧ fr' = upd fr a1.toNatClampNeg c8 ∧ fe' = upd fe a1.toNatClampNeg c9) (hl : r.toInt = 1 → k < y) : y_ok r (y_one kd vl i (y_gx cx ry fm mi pl fo od fr fe) k) (y_gx cx ry fm mi pl fo od fr' fe') k y := by
  have e1 := dk_clN a1
  rw [show a1.toNatClampNeg = 2 by omega] at h hu
  rw [ha] at h
  have hT := (y_one_n (kd := kd) (vl := vl) (k := k) hi (σ := y_gx cx ry fm mi pl fo od fr fe)).trans (y_st_14 hk hv)
  refine ⟨fun q => ⟨?_, hl q⟩, fun q => ?_⟩
  · obtain ⟨c8, c9, hc, ef, ee⟩ := hu q
    rw [hT, y_if2, h.1 q]
    unfold y_gx
    rw [ef, ee, y_upd_at, y_upd_at, decide_eq_true hc, y_upd_ne (i := 0) (by decide), y_upd_ne (i := 0) (by decide), y_upd_ne (i := 1) (by decide), y_upd_ne (i := 1) (by decide)]
    rfl
  · rw [hT, y_if2, h.2 q]
    rfl
theorem y_seam_at (hk : (kd k).toInt = 1) (hv : (vl k).toInt = 0) : y_seam kd vl k = (y_num kd vl 3 7 (k + 1)).bind fun k2 => (y_own kd vl 1 k2).bind (y_num kd vl 3 7) := by
  have e : y_own kd vl 0 k = some (k + 1) := by
    unfold y_own
    rw [g_o_at hk, hv]
    rfl
  unfold y_seam
  rw [e]
  rfl
theorem y_ok_s (hi : i = 0) (hk : (kd k).toInt = 1) (hv : (vl k).toInt = 0) (h : g_ans r ((y_num kd vl 3 7 (k + 1)).bind fun k2 => (y_own kd vl 1 k2).bind (y_num kd vl 3 7)) y) (hc : r.toInt = 1 → cx'.toInt = (vl (k + 1)).toInt) (hr : r.toInt = 1 → ry'.toInt = (vl (k + 3)).toInt) : y_ok r (y_one kd vl i (y_gx cx ry fm mi pl fo od fr fe) k) (y_gx cx' ry' fm mi pl fo od fr fe) k y := by
  have hT : y_one kd vl i (y_gx cx ry fm mi pl fo od fr fe) k = ((y_num kd vl 3 7 (k + 1)).bind fun k2 => (y_own kd vl 1 k2).bind (y_num kd vl 3 7)).map fun k' => ((((vl (k + 1)).toInt, (vl (k + 3)).toInt), (y_gx cx ry fm mi pl fo od fr fe).2), k') := by
    unfold y_one
    rw [if_pos hi, y_seam_at hk hv]
  refine ⟨fun q => ⟨?_, ?_⟩, fun q => ?_⟩
  · rw [hT, h.1 q]
    unfold y_gx
    rw [hc q, hr q]
    rfl
  · obtain ⟨j, h1, h2⟩ := g_bind (h.1 q)
    obtain ⟨j2, h3, h4⟩ := g_bind h2
    have := y_num_l h1
    have := y_own_l h3
    have := y_num_l h4
    omega
  · rw [hT, h.2 q]
    rfl
theorem y_one_k {σ : y_S} (h : (kd k).toInt ≠ 1) : y_one kd vl i σ k = none := by
  by_cases q : i = 0
  · unfold y_one y_seam y_own
    rw [if_pos q, if_neg (by rw [g_o_iff]; omega)]
    rfl
  · rw [y_one_n q]
    exact y_st_no (Or.inl h)
theorem y_one_0 {σ : y_S} (hi : i = 0) (h : (vl k).toInt ≠ 0) : y_one kd vl i σ k = none := by
  unfold y_one y_seam y_own
  rw [if_pos hi, if_neg (by rw [g_o_iff]; omega)]
  rfl
theorem y_one_no {σ : y_S} (hi : i ≠ 0) (h : (kd k).toInt ≠ 1 ∨ ((vl k).toInt ≠ 2 ∧ (vl k).toInt ≠ 3 ∧ (vl k).toInt ≠ 4 ∧ (vl k).toInt ≠ 5 ∧ (vl k).toInt ≠ 6 ∧ (vl k).toInt ≠ 7 ∧ (vl k).toInt ≠ 9 ∧ (vl k).toInt ≠ 12 ∧ (vl k).toInt ≠ 13 ∧ (vl k).toInt ≠ 14)) : y_one kd vl i σ k = none := by
  rw [y_one_n hi]
  exact y_st_no h
/-! a MINE's STATEMENTS, one after another -/
/-- i STATEMENTS are taken, σ is told, the next token is n: what the whole text is hangs on the rest -/
def y_at (kd vl : Nat → Int32) (i : Nat) (σ : y_S) (n : Nat) : Prop := i ≤ 80 ∧ y_mine kd vl = y_go kd vl (80 - i) i σ n
theorem y_at.start (hm : mi.toInt = 0) (hp : pl.toInt = 0) (ho : od.toInt = 0) (hc : cx.toInt = 0) (hr : ry.toInt = 0) (hf : ∀ j : Nat, j < 3 → (fr j).toInt = 0) (he : ∀ j : Nat, j < 3 → (fe j).toInt = 0) (hi : i = 0) (hk : k = 0) : y_at kd vl i (y_gx cx ry fm mi pl fo od fr fe) k := by
  have e1 := dk_clN mi
  have e2 := dk_clN pl
  have e3 := dk_clN od
  have e : y_gx cx ry fm mi pl fo od fr fe = y_0 := by
    unfold y_gx y_0
    rw [hc, hr, show mi.toNatClampNeg = 0 by omega, show pl.toNatClampNeg = 0 by omega, show od.toNatClampNeg = 0 by omega, hf 0 (by decide), hf 1 (by decide), hf 2 (by decide), he 0 (by decide), he 1 (by decide), he 2 (by decide)]
    rfl
  rw [e, hi, hk]
  exact ⟨Nat.zero_le _, rfl⟩
variable {σ : y_S}
theorem y_go_at {f : Nat} (hz : ¬ (i ≠ 0 ∧ (kd k).toInt = 0)) : y_go kd vl (f + 1) i σ k = (y_one kd vl i σ k).bind fun p => (g_tk kd vl 59 p.2).bind fun k' => y_go kd vl f (i + 1) p.1 k' := by
  show (if i ≠ 0 ∧ (kd k).toInt = 0 then some (i, σ) else _) = _
  rw [if_neg hz]
theorem y_at.done (h : y_at kd vl i σ k) (hi : i ≠ 0) (hz : (kd k).toInt = 0) : y_mine kd vl = some (i, σ) := by
  rw [h.2]
  cases q : 80 - i with
  | zero => show (if i ≠ 0 ∧ (kd k).toInt = 0 then some (i, σ) else none) = _; rw [if_pos ⟨hi, hz⟩]
  | succ f => show (if i ≠ 0 ∧ (kd k).toInt = 0 then some (i, σ) else _) = _; rw [if_pos ⟨hi, hz⟩]
theorem y_at.full (h : y_at kd vl i σ k) (hi : i = 80) (hz : ¬ (i ≠ 0 ∧ (kd k).toInt = 0)) : y_mine kd vl = none := by
  rw [h.2, hi]
  rw [hi] at hz
  show (if 80 ≠ 0 ∧ (kd k).toInt = 0 then some (80, σ) else none) = _
  rw [if_neg hz]
theorem y_at.bad (h : y_at kd vl i σ k) (hi : i ≠ 80) (hz : ¬ (i ≠ 0 ∧ (kd k).toInt = 0)) (h1 : y_one kd vl i σ k = none) : y_mine kd vl = none := by
  obtain ⟨f, hf⟩ : ∃ f, 80 - i = f + 1 := ⟨80 - i - 1, by have := h.1; omega⟩
  rw [h.2, hf, y_go_at hz, h1]
  rfl
theorem y_at.opn (h : y_at kd vl i σ k) (hi : i ≠ 80) (hz : ¬ (i ≠ 0 ∧ (kd k).toInt = 0)) (h1 : y_one kd vl i σ k = some (σ', y)) (h2 : g_tk kd vl 59 y = none) : y_mine kd vl = none := by
  obtain ⟨f, hf⟩ : ∃ f, 80 - i = f + 1 := ⟨80 - i - 1, by have := h.1; omega⟩
  rw [h.2, hf, y_go_at hz, h1]
  show (g_tk kd vl 59 y).bind _ = none
  rw [h2]
  rfl
theorem y_at.next {i' k' : Nat} (h : y_at kd vl i σ k) (hi : i ≠ 80) (hz : ¬ (i ≠ 0 ∧ (kd k).toInt = 0)) (h1 : y_one kd vl i σ k = some (σ', y)) (h2 : g_tk kd vl 59 y = some k') (hi' : i' = i + 1) : y_at kd vl i' σ' k' := by
  obtain ⟨f, hf⟩ : ∃ f, 80 - i = f + 1 := ⟨80 - i - 1, by have := h.1; omega⟩
  refine ⟨by have := h.1; omega, ?_⟩
  rw [h.2, hf, y_go_at hz, h1]
  show (g_tk kd vl 59 y).bind _ = _
  rw [h2, hi', show 80 - (i + 1) = f by omega]
  rfl
end YZ
