/-! what is written into the row of steps, from where it stood: L; what lies below stays -/
def q_as (g : Nat) (S S1 : dg_S) (a : Int32) (L : List Int) : Prop := ∃ b : Int32, S1.1 209 7 = .int b ∧ b.toInt = a.toInt + L.length ∧ 0 ≤ a.toInt ∧ (∀ j : Nat, (j : Int) < a.toInt → S1.2.1 (g + 9) j = S.2.1 (g + 9) j) ∧ ∀ j : Nat, j < L.length → (S1.2.1 (g + 9) (a.toNatClampNeg + j)).toInt = L.getD j 0
section QAS
variable {g : Nat} {S S1 S2 S3 : dg_S} {a b v : Int32} {L L1 L2 L' : List Int}
theorem q_as.put (h7 : S1.1 209 7 = .int b) (hb : b.toInt = a.toInt + 1) (h0 : 0 ≤ a.toInt) (hr : S1.2.1 (g + 9) = upd (S.2.1 (g + 9)) a.toNatClampNeg v) : q_as g S S1 a [v.toInt] := by
  have ha := dk_clN a
  refine ⟨b, h7, hb, h0, fun j hj => ?_, fun j hj => ?_⟩
  · rw [hr]
    exact if_neg (by omega)
  · have hj : j < 1 := hj
    have e : j = 0 := by omega
    subst e
    rw [hr]
    exact congrArg Int32.toInt (if_pos rfl)
theorem q_as.tr (h1 : q_as g S S1 a L1) (e7 : S2.1 209 7 = S1.1 209 7) (er : S2.2.1 (g + 9) = S1.2.1 (g + 9)) (f : S2.1 209 7 = .int b) (h2 : q_as g S2 S3 b L2) : q_as g S S3 a (L1 ++ L2) := by
  obtain ⟨b1, f1, n1, h0, k1, w1⟩ := h1
  obtain ⟨b2, f2, n2, h0', k2, w2⟩ := h2
  have eb := f.symm.trans (e7.trans f1)
  cases eb
  have ha := dk_clN a
  have hb := dk_clN b
  refine ⟨b2, f2, ?_, h0, fun j hj => ?_, fun j hj => ?_⟩
  · rw [List.length_append]
    omega
  · rw [k2 j (by omega), er]
    exact k1 j hj
  · by_cases q : j < L1.length
    · rw [k2 _ (by omega), er, w1 j q, List.getD_eq_getElem?_getD, List.getD_eq_getElem?_getD, List.getElem?_append_left q]
    · rw [List.length_append] at hj
      have h := w2 (j - L1.length) (by omega)
      rw [show b.toNatClampNeg + (j - L1.length) = a.toNatClampNeg + j by omega] at h
      rw [h, List.getD_eq_getElem?_getD, List.getD_eq_getElem?_getD, List.getElem?_append_right (by omega)]
theorem q_as.fst (er : S2.2.1 (g + 9) = S.2.1 (g + 9)) (h : q_as g S2 S3 a L) : q_as g S S3 a L := by
  obtain ⟨b2, f2, n2, h0, k2, w2⟩ := h
  exact ⟨b2, f2, n2, h0, fun j hj => (k2 j hj).trans (congrFun er j), w2⟩
theorem q_as.keep (h : q_as g S S1 a L) (e7 : S2.1 209 7 = S1.1 209 7) (er : S2.2.1 (g + 9) = S1.2.1 (g + 9)) : q_as g S S2 a L := by
  obtain ⟨b1, f1, n1, h0, k1, w1⟩ := h
  exact ⟨b1, e7.trans f1, n1, h0, fun j hj => (congrFun er j).trans (k1 j hj), fun j hj => (congrArg Int32.toInt (congrFun er _)).trans (w1 j hj)⟩
theorem q_as.to (h : q_as g S S1 a L) (e : L' = L) : q_as g S S1 a L' := by
  rw [e]
  exact h
/-- the road of a loop: D is what has been written and what comes yet -/
def q_it (c : Int32) (g : Nat) (S S1 : dg_S) (a : Int32) (D : List Int) (op : Nat → Bool) (p : Nat → Option Nat) (cp : d_C) (st : Nat → Int) (f k : Nat) : Prop := c.toInt = 1 → ∃ L, q_as g S S1 a L ∧ D = L ++ d_loop op p cp st f k
variable {op : Nat → Bool} {p : Nat → Option Nat} {cp : d_C} {st : Nat → Int} {D : List Int} {f f' k y : Nat} {x c : Int32}
theorem q_it.start (hD : D = cp k ++ d_loop op p cp st f ((p k).getD 0)) (A : g_ans x (p k) y) (h : x.toInt = 1 → q_as g S S1 a (cp k)) : q_it x g S S1 a D op p cp st f y := fun q => ⟨cp k, h q, by rw [hD, A.1 q]; rfl⟩
theorem q_it.step {w : Int} (h : q_it c g S S2 a D op p cp st f k) (hc : c.toInt = 1) (hf : f = f' + 1) (ho : op k = true) (A : g_ans x (p (k + 1)) y) (fb : S2.1 209 7 = .int b) (h2 : x.toInt = 1 → q_as g S2 S1 b (cp (k + 1) ++ [w])) (hs : w = st k) : q_it x g S S1 a D op p cp st f' y := fun q => by
  obtain ⟨L, hL, e⟩ := h hc
  refine ⟨L ++ (cp (k + 1) ++ [w]), hL.tr rfl rfl fb (h2 q), ?_⟩
  rw [e, hf]
  show L ++ (if op k then cp (k + 1) ++ st k :: d_loop op p cp st f' ((p (k + 1)).getD 0) else []) = _
  rw [if_pos ho, A.1 q, hs]
  simp
theorem q_it.stop (h : q_it c g S S1 a D op p cp st f k) (hx : c.toInt = 1 → f = 0 ∨ op k = false) : c.toInt = 1 → q_as g S S1 a D := fun q => by
  obtain ⟨L, hL, e⟩ := h q
  have : d_loop op p cp st f k = [] := by
    rcases hx q with z | z
    · subst z
      rfl
    · cases f with
      | zero => rfl
      | succ f =>
        show (if op k then _ else []) = _
        rw [if_neg (by rw [z]; decide)]
  rw [this, List.append_nil] at e
  exact hL.to e
end QAS
section DLE
variable {kd vl : Nat → Int32} {w : Int} {e k : Nat} {p : Nat → Option Nat} {cp : d_C}
theorem d_prod_e : d_prod kd vl p cp k = cp k ++ d_loop (g_po kd vl) p cp (d_po kd vl) 1600 ((p k).getD 0) := by
  unfold d_prod
  rfl
theorem d_sum_e : d_sum kd vl p cp k = d_prod kd vl p cp k ++ d_loop (g_so kd vl) (x_prod kd vl p) (d_prod kd vl p cp) (d_so kd vl) 1600 ((x_prod kd vl p k).getD 0) := by
  unfold d_sum
  rfl
theorem d_both_e : d_both kd vl p cp k = cp k ++ d_loop (g_o kd vl 22) p cp (fun _ => -20) 1600 ((p k).getD 0) := by
  unfold d_both
  rfl
theorem d_test_e : d_test kd vl p cp k = d_both kd vl p cp k ++ d_loop (g_o kd vl 21) (x_both kd vl p) (d_both kd vl p cp) (fun _ => -21) 1600 ((x_both kd vl p k).getD 0) := by
  unfold d_test
  rfl
theorem d_lv_s : (d_lv kd vl w (e + 1)).1 k = d_sum kd vl (x_part kd vl w (x_lv kd vl w e).1 (x_lv kd vl w e).2.1) (d_part kd vl (x_lv kd vl w e).1 (x_lv kd vl w e).2.1 (d_lv kd vl w e).1 (d_lv kd vl w e).2.1) k := by
  rw [d_lv]
theorem d_lv_t : (d_lv kd vl w (e + 1)).2.1 k = d_test kd vl (x_lv kd vl w (e + 1)).2.2 (d_lv kd vl w (e + 1)).2.2 k := by
  rw [d_lv]
theorem d_lv_f : (d_lv kd vl w (e + 1)).2.2 k = d_fact kd vl (x_lv kd vl w (e + 1)).1 (d_lv kd vl w e).2.2 (d_lv kd vl w e).2.1 (d_lv kd vl w (e + 1)).1 k := by
  rw [d_lv]
end DLE
section DFW
variable {kd vl : Nat → Int32} {k : Nat}
theorem d_fw_1 (h : (kd k).toInt = 1) (hv : (vl k).toInt = 5) : d_fw kd vl k = -1 := by
  unfold d_fw
  rw [if_pos (g_o_iff.mpr ⟨h, hv⟩)]
theorem g_o_no {c : Int} (hv : (vl k).toInt ≠ c) : ¬ g_o kd vl c k = true := fun q => hv (g_o_iff.mp q).2
theorem d_fw_2 (h : (kd k).toInt = 1) (hv : (vl k).toInt = 15) : d_fw kd vl k = -2 := by
  unfold d_fw
  rw [if_neg (g_o_no (by omega)), if_pos (g_o_iff.mpr ⟨h, hv⟩)]
theorem d_fw_3 (h : (kd k).toInt = 1) (hv : (vl k).toInt = 16) : d_fw kd vl k = -3 := by
  unfold d_fw
  rw [if_neg (g_o_no (by omega)), if_neg (g_o_no (by omega)), if_pos (g_o_iff.mpr ⟨h, hv⟩)]
theorem d_fw_4 (h : (kd k).toInt = 1) (hv : (vl k).toInt = 17) : d_fw kd vl k = -4 := by
  unfold d_fw
  rw [if_neg (g_o_no (by omega)), if_neg (g_o_no (by omega)), if_neg (g_o_no (by omega)), if_pos (g_o_iff.mpr ⟨h, hv⟩)]
theorem d_fw_5 (h : (kd k).toInt = 1) (hv : (vl k).toInt = 18) : d_fw kd vl k = -5 := by
  unfold d_fw
  rw [if_neg (g_o_no (by omega)), if_neg (g_o_no (by omega)), if_neg (g_o_no (by omega)), if_neg (g_o_no (by omega)), if_pos (g_o_iff.mpr ⟨h, hv⟩)]
theorem d_fw_6 (hv : (vl k).toInt = 19) : d_fw kd vl k = -6 := by
  unfold d_fw
  rw [if_neg (g_o_no (by omega)), if_neg (g_o_no (by omega)), if_neg (g_o_no (by omega)), if_neg (g_o_no (by omega)), if_neg (g_o_no (by omega))]
end DFW
