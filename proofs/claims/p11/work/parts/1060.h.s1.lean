/-! a MINE, STATEMENT by STATEMENT, as the reference reads it -/
/-- n STATEMENTS are taken, or there is a fault: then it is no MINE -/
def MIN (tb : Nat → Int32) (n : Nat) (cnt f a : Int32) (S : dg_S) : Prop := (f.toInt = 0 → ∃ σ : y_S, GSM σ S ∧ y_at (T_kd tb n) (T_vl tb n) cnt.toNatClampNeg σ (t_ix tb n a.toNatClampNeg) ∧ 1 ≤ cnt.toInt ∧ (cnt.toInt = 80 → (T_kd tb n (t_ix tb n a.toNatClampNeg)).toInt = 0)) ∧ (f.toInt ≠ 0 → y_mine (T_kd tb n) (T_vl tb n) = none)
section MN
variable {tb : Nat → Int32} {n k i : Nat} {S S1 S2 : dg_S} {WF : List (Nat × Nat)} {WA : List Nat} {fk f1 a1 f2 a2 cnt ii mi pl od : Int32} {σ : y_S} {T : Option (y_S × Nat)}
theorem y_at0 {kd vl : Nat → Int32} : y_at kd vl 0 y_0 0 := ⟨Nat.zero_le _, rfl⟩
theorem y_one_0t {kd vl : Nat → Int32} (h : σ.2 = y_0.2) (hk : k = 0) : y_one kd vl 0 y_0 0 = (y_seam kd vl k).map fun k9 => ((((vl (k + 1)).toInt, (vl (k + 3)).toInt), σ.2), k9) := by
  rw [h, hk]
  rfl
theorem GSM.init {w : Value} (fi : S.1 0 35 = .int ii) (h0 : 0 ≤ ii.toInt) (fm : S.2.1 8 ii.toNatClampNeg = mi) (hm : mi.toInt = 0) (fp : S.2.1 9 ii.toNatClampNeg = pl) (hp : pl.toInt = 0) (fo : S.2.1 12 ii.toNatClampNeg = od) (ho : od.toInt = 0) (hs : ∀ w : Nat, w < 3 → (S.2.1 16 (3 * ii.toNatClampNeg + w)).toInt = -1) (e : S1 = dg_uF S 0 34 w) : ∃ σ : y_S, GSM σ S1 ∧ σ.2 = y_0.2 := by
  have e1 := dk_clN mi
  have e2 := dk_clN pl
  have e3 := dk_clN od
  have m0 : (S.2.1 8 ii.toNatClampNeg).toNatClampNeg = 0 := by rw [fm]; omega
  have p0 : (S.2.1 9 ii.toNatClampNeg).toNatClampNeg = 0 := by rw [fp]; omega
  have o0 : (S.2.1 12 ii.toNatClampNeg).toNatClampNeg = 0 := by rw [fo]; omega
  refine ⟨GSv S1 ii.toNatClampNeg, ⟨ii, ?_, h0, rfl, ?_, ?_⟩, ?_⟩
  · rw [dg_uF_ne e (fun z => absurd z.2 (by decide))]
    exact fi
  · rw [dg_uF_f e, dg_uF_l e, m0]
    exact fun j hj => absurd hj (Nat.not_lt_zero j)
  · rw [dg_uF_f e, dg_uF_l e, o0]
    exact fun j hj => absurd hj (Nat.not_lt_zero j)
  · unfold GSv y_0
    rw [dg_uF_f e 2, dg_uF_f e 3, dg_uF_f e 8, dg_uF_f e 9, dg_uF_f e 12, dg_uF_f e 16, dg_uF_l e, dg_uF_l e, m0, p0, o0, hs 1 (by decide), hs 2 (by decide)]
    have h3 := hs 0 (by decide)
    rw [Nat.add_zero] at h3
    rw [h3]
    rfl
theorem MIN.stp (hY : y_at (T_kd tb n) (T_vl tb n) i σ k) (hz : ¬ (i ≠ 0 ∧ (T_kd tb n k).toInt = 0)) (hi : i ≠ 80) (e : y_one (T_kd tb n) (T_vl tb n) i σ k = T) (hS : SOK tb n fk T S1) (hf0 : fk.toInt = 0) (p8 : S1.1 0 8 = .int f1) (p4 : S1.1 0 4 = .int a1) (hc : (cnt.toNatClampNeg : Int) = (i : Int) + 1) (F : f1.toInt = 0 → (f2.toInt = 0 → g_tk (T_kd tb n) (T_vl tb n) 59 (t_ix tb n a1.toNatClampNeg) = some (t_ix tb n a2.toNatClampNeg) ∧ (cnt.toInt = 80 → (T_kd tb n (t_ix tb n a2.toNatClampNeg)).toInt = 0)) ∧ (f2.toInt ≠ 0 → g_tk (T_kd tb n) (T_vl tb n) 59 (t_ix tb n a1.toNatClampNeg) = none ∨ (cnt.toInt = 80 ∧ ∃ k9 : Nat, g_tk (T_kd tb n) (T_vl tb n) 59 (t_ix tb n a1.toNatClampNeg) = some k9 ∧ (T_kd tb n k9).toInt ≠ 0))) (hff : f1.toInt ≠ 0 → f2.toInt ≠ 0) (m : dg_sm shM WF WA S1 S2) (h35 : (0, 35) ∉ WF) (k2 : 2 ∉ WA) (k3 : 3 ∉ WA) (k8 : 8 ∉ WA) (k9 : 9 ∉ WA) (k12 : 12 ∉ WA) (k16 : 16 ∉ WA) (k20 : 20 ∉ WA) (k21 : 21 ∉ WA) : MIN tb n cnt f2 a2 S2 := by
  have ec := dk_clN cnt
  have ei : cnt.toNatClampNeg = i + 1 := by omega
  obtain ⟨s1, s2⟩ := hS hf0 f1 a1 p8 p4
  have bad : f1.toInt ≠ 0 → y_mine (T_kd tb n) (T_vl tb n) = none := by
    intro q
    rcases s2 q with h | ⟨σ', k', h, h5⟩
    · exact hY.bad hi hz (by rw [e, h])
    · exact hY.opn hi hz (by rw [e, h]) (by unfold g_tk; rw [g_s_5 h5]; rfl)
  refine ⟨fun q2 => ?_, fun q2 => ?_⟩
  · by_cases q1 : f1.toInt = 0
    · obtain ⟨σ', g, h⟩ := s1 q1
      obtain ⟨a, b⟩ := (F q1).1 q2
      exact ⟨σ', g.keep m h35 k2 k3 k8 k9 k12 k16 k20 k21, hY.next hi hz (by rw [e, h]) a ei, by omega, b⟩
    · exact absurd q2 (hff q1)
  · by_cases q1 : f1.toInt = 0
    · obtain ⟨σ', g, h⟩ := s1 q1
      rcases (F q1).2 q2 with a | ⟨c80, k9', a, b⟩
      · exact hY.opn hi hz (by rw [e, h]) a
      · have hn := hY.next hi hz (by rw [e, h]) a ei
        exact hn.full (by omega) (fun z => b z.2)
    · exact bad q1
end MN
