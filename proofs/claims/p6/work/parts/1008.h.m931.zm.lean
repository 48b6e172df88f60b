/-! the reference: what holds of the bank in use, and of the shifts told -/
def ZBM (S : dg_S) : Prop := ∀ b sm : Int32, S.1 0 13 = .int b → S.1 0 47 = .int sm → (S.2.1 2 b.toNatClampNeg).toInt ≤ 7 ∧ (S.2.1 3 b.toNatClampNeg).toInt ≤ 7 ∧ (S.2.1 4 b.toNatClampNeg).toInt ≤ 63 ∧ (sm.toInt = 1 → 3 ≤ (S.2.1 2 b.toNatClampNeg).toInt ∧ 3 ≤ (S.2.1 3 b.toNatClampNeg).toInt)
def ZSM (S : dg_S) : Prop := ∀ j : Nat, j < 22 → j ≠ 1 → (S.2.1 29 j).toInt ≤ 999
theorem ZBM.keep {S S1 : dg_S} {WF : List (Nat × Nat)} {WA : List Nat} (h : ZBM S) (m : dg_sm shM WF WA S S1) (h1 : (0, 13) ∉ WF) (h2 : (0, 47) ∉ WF) (h3 : 2 ∉ WA) (h4 : 3 ∉ WA) (h5 : 4 ∉ WA) : ZBM S1 := by
  intro b sm hb hsm
  rw [m.1 0 13 _ sM_0 h1] at hb
  rw [m.1 0 47 _ sM_0 h2] at hsm
  rw [(m.2 2 _ sM_2 h3).1, (m.2 3 _ sM_3 h4).1, (m.2 4 _ sM_4 h5).1]
  exact h b sm hb hsm
theorem ZSM.keep {S S1 : dg_S} {WF : List (Nat × Nat)} {WA : List Nat} (h : ZSM S) (m : dg_sm shM WF WA S S1) (h1 : 29 ∉ WA) : ZSM S1 := by
  intro j hj h2
  rw [(m.2 29 _ sM_29 h1).1]
  exact h j hj h2
theorem ZSM.up {S S1 : dg_S} {i x : Int32} (h : ZSM S) (hin : vp_in i 22) (e : S1 = dg_uf S 29 (upd (S.2.1 29) i.toNatClampNeg x)) (hx : i.toInt ≠ 1 → x.toInt ≤ 999) : ZSM S1 := by
  intro j hj h2
  rw [dg_uf_at e]
  have e1 := dk_inT hin
  unfold upd
  split
  · exact hx (by omega)
  · exact h j hj h2
/-- a smaller number by its lowest bit -/
theorem dk_lowbit {x : Int32} (h : x ≠ 0) : (x &&& (x - 1)).toUInt32.toNat < x.toUInt32.toNat := by
  have e1 : (x &&& (x - 1)).toUInt32.toNat = (x.toBitVec &&& (x.toBitVec - 1)).toNat := rfl
  have e2 : x.toUInt32.toNat = x.toBitVec.toNat := rfl
  rw [e1, e2, BitVec.toNat_and]
  have h0 : x.toBitVec ≠ 0 := fun z => h (Int32.toBitVec_inj.mp z)
  have h1 : x.toBitVec.toNat ≠ 0 := fun z => h0 (BitVec.eq_of_toNat_eq (by simpa using z))
  have h2 : (x.toBitVec - 1).toNat = x.toBitVec.toNat - 1 := by
    rw [BitVec.toNat_sub]
    have h4 := x.toBitVec.isLt
    have h5 : (1 : BitVec 32).toNat = 1 := rfl
    rw [h5]
    omega
  have h3 := Nat.and_le_right (n := x.toBitVec.toNat) (m := (x.toBitVec - 1).toNat)
  omega
