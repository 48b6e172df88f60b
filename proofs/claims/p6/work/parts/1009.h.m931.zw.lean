/-! the reference: programs (rows of codes), the seed, longs -/
theorem dk_bm64 {z : Int} (h1 : -9223372036854775808 ≤ z) (h2 : z < 9223372036854775808) : z.bmod (2 ^ 64) = z := by
  rw [Int.bmod_def]
  omega
theorem dk_lshr8 {x : Int64} (h : 0 < x.toInt) : 0 ≤ (x >>> ((8 : Int32).toInt64 &&& 63)).toInt ∧ (x >>> ((8 : Int32).toInt64 &&& 63)).toInt < x.toInt := by
  have e1 : ((8 : Int32).toInt64 &&& 63) = (8 : Int64) := by decide +kernel
  have e3 : ((8 : Int64).toBitVec.smod 64).toNat = 8 := by decide +kernel
  have e2 : (x >>> (8 : Int64)).toInt = x.toInt / ((2 ^ 8 : Nat) : Int) := by
    show (x.toBitVec.sshiftRight' ((8 : Int64).toBitVec.smod 64)).toInt = x.toBitVec.toInt / _
    rw [BitVec.toInt_sshiftRight', Int.shiftRight_eq_div_pow, e3]
  rw [e1, e2]
  have e4 : ((2 ^ 8 : Nat) : Int) = 256 := by decide
  rw [e4]
  omega
/-- what is left of a long -/
theorem dk_remB {u q v : Int64} (hu : 0 ≤ u.toInt) (hq : 0 < q.toInt) (e : v = u - u / q * q) : 0 ≤ v.toInt ∧ v.toInt < q.toInt := by
  have hm : q ≠ -1 := fun z => by
    rw [z] at hq
    exact absurd hq (by decide +kernel)
  have h1 : (u / q).toInt = u.toInt / q.toInt := by rw [Int64.toInt_div_of_ne_right u q hm, Int.tdiv_eq_ediv_of_nonneg hu]
  have hb := Int64.toInt_lt u
  have h2 : u.toInt / q.toInt * q.toInt ≤ u.toInt := Int.ediv_mul_le _ (by omega)
  have h3 : 0 ≤ u.toInt / q.toInt * q.toInt := Int.mul_nonneg (Int.ediv_nonneg hu (by omega)) (by omega)
  have h4 : (u / q * q).toInt = u.toInt / q.toInt * q.toInt := by rw [Int64.toInt_mul, h1, dk_bm64 (by omega) (by omega)]
  have h5 : v.toInt = u.toInt - u.toInt / q.toInt * q.toInt := by rw [e, Int64.toInt_sub, h4, dk_bm64 (by omega) (by omega)]
  have h6 : u.toInt - u.toInt / q.toInt * q.toInt = u.toInt % q.toInt := by
    have := Int.emod_def u.toInt q.toInt
    rw [this, Int.mul_comm]
  rw [h5, h6]
  exact ⟨Int.emod_nonneg _ (by omega), Int.emod_lt_of_pos _ hq⟩
theorem dk_drawA {x y z w : Int64} (hx : 0 ≤ x.toInt ∧ x.toInt < 2147483648) (e1 : y = 1103515245 * x) (e2 : z = y + 12345) (e3 : w = z - z / 2147483648 * 2147483648) : 0 ≤ w.toInt ∧ w.toInt < 2147483648 := by
  have c1 : (1103515245 : Int64).toInt = 1103515245 := by decide +kernel
  have c2 : (12345 : Int64).toInt = 12345 := by decide +kernel
  have c3 : (2147483648 : Int64).toInt = 2147483648 := by decide +kernel
  have h1 : y.toInt = 1103515245 * x.toInt := by rw [e1, Int64.toInt_mul, c1, dk_bm64 (by omega) (by omega)]
  have h2 : z.toInt = y.toInt + 12345 := by rw [e2, Int64.toInt_add, c2, dk_bm64 (by omega) (by omega)]
  have h3 := dk_remB (u := z) (by omega) (by rw [c3]; omega) e3
  rw [c3] at h3
  exact h3
theorem dk_div64 {x y : Int64} (hx : 0 ≤ x.toInt) (e : y = x / 64) : 0 ≤ y.toInt := by
  have c1 : (64 : Int64).toInt = 64 := by decide +kernel
  rw [e, Int64.toInt_div_of_ne_right x 64 (by decide +kernel), Int.tdiv_eq_ediv_of_nonneg hx, c1]
  omega
def ZDM (S : dg_S) : Prop := ∀ x : Int64, S.1 0 62 = .long x → 0 ≤ x.toInt ∧ x.toInt < 2147483648
theorem ZDM.keep {S S1 : dg_S} {WF : List (Nat × Nat)} {WA : List Nat} (h : ZDM S) (m : dg_sm shM WF WA S S1) (h1 : (0, 62) ∉ WF) : ZDM S1 := by
  intro x hx
  rw [m.1 0 62 _ sM_0 h1] at hx
  exact h x hx
theorem ZDM.put {S S1 : dg_S} {v : Int64} (e : S1 = dg_uF S 0 62 (.long v)) (h : 0 ≤ v.toInt ∧ v.toInt < 2147483648) : ZDM S1 := by
  intro x hx
  rw [dg_uF_at e] at hx
  cases hx
  exact h
/-- bytes side by side -/
theorem dk_orN {x y : Int32} (hx : 0 ≤ x.toInt) (hy : 0 ≤ y.toInt) : 0 ≤ (x ||| y).toInt := by
  obtain ⟨m, hm, rfl⟩ := nI_of (x := x) (dk_nneg hx)
  obtain ⟨k, hk, rfl⟩ := nI_of (x := y) (dk_nneg hy)
  have h := Nat.or_lt_two_pow hm hk
  have e : nI m ||| nI k = nI (m ||| k) := by
    apply Int32.toBitVec_inj.mp
    apply BitVec.eq_of_toNat_eq
    have e1 : ∀ j : Nat, j < 2 ^ 31 → (nI j).toBitVec.toNat = j := fun j hj => by
      have h1 := nI_toInt hj
      have h2 : (nI j).toBitVec.toInt = (j : Int) := h1
      rw [BitVec.toInt_eq_toNat_cond] at h2
      have h3 := (nI j).toBitVec.isLt
      split at h2 <;> omega
    show ((nI m).toBitVec ||| (nI k).toBitVec).toNat = _
    rw [BitVec.toNat_or, e1 _ hm, e1 _ hk, e1 _ h]
  rw [e, nI_toInt h]
  omega
/-! codes: what each wants of the values that wait, and how many it leaves -/
def dk_st (t n n' : Int) : Prop := 0 ≤ n ∧ n ≤ 400 ∧ ((((0 ≤ t ∧ t ≤ 6) ∨ t = 30) ∧ n' = n + 1) ∨ (t = 43 ∧ 1 ≤ n ∧ n' = n) ∨ (t = 44 ∧ 3 ≤ n ∧ n' = n - 2) ∨ (31 ≤ t ∧ t ≤ 42 ∧ 2 ≤ n ∧ n' = n - 1))
def dk_ok (f : Nat → Int32) : Nat → Nat → Int → Int → Prop
  | 0, _, n, m => n = m
  | k + 1, s, n, m => ∃ n' : Int, dk_st (f s).toInt n n' ∧ dk_ok f k (s + 1) n' m
theorem dk_ok.next {f : Nat → Int32} {E n : Int} {i x : Int32} (h : ∃ m, dk_ok f (E - i.toInt).toNat i.toNatClampNeg n m) (hlt : i.toInt < E) (h0 : 0 ≤ i.toInt) (hx : x = f i.toNatClampNeg) : ∃ n' : Int, dk_st x.toInt n n' ∧ ∃ m, dk_ok f (E - (i.toInt + 1)).toNat (i.toNatClampNeg + 1) n' m := by
  obtain ⟨m, h⟩ := h
  have e : (E - i.toInt).toNat = (E - (i.toInt + 1)).toNat + 1 := by omega
  rw [e] at h
  obtain ⟨n', h1, h2⟩ := h
  subst hx
  exact ⟨n', h1, m, h2⟩
theorem dk_ok.go {f : Nat → Int32} {E n' : Int} {i i' z : Int32} (h : ∃ m, dk_ok f (E - (i.toInt + 1)).toNat (i.toNatClampNeg + 1) n' m) (hi : i'.toInt = i.toInt + 1) (h0 : 0 ≤ i.toInt) (hz : z.toInt = n') : ∃ m, dk_ok f (E - i'.toInt).toNat i'.toNatClampNeg z.toInt m := by
  have e : i'.toNatClampNeg = i.toNatClampNeg + 1 := by rw [dk_clN, dk_clN]; omega
  rw [hi, e, hz]
  exact h
theorem dk_ok.init {f : Nat → Int32} {b fr bh c z : Int32} (h : ∃ m, dk_ok f (bh.toInt - fr.toInt).toNat (1600 * b.toNatClampNeg + fr.toInt.toNat) 0 m) (hb : 0 ≤ b.toInt) (hfr : 0 ≤ fr.toInt) (hc : c.toInt = 1600 * b.toInt + fr.toInt) (hz : z.toInt = 0) : ∃ m, dk_ok f (1600 * b.toInt + bh.toInt - c.toInt).toNat c.toNatClampNeg z.toInt m := by
  have e1 : c.toNatClampNeg = 1600 * b.toNatClampNeg + fr.toInt.toNat := by rw [dk_clN, dk_clN]; omega
  have e2 : (1600 * b.toInt + bh.toInt - c.toInt).toNat = (bh.toInt - fr.toInt).toNat := by omega
  rw [e1, e2, hz]
  exact h
theorem dk_ok.snoc {f : Nat → Int32} {m' : Int} : ∀ {k s : Nat} {n m : Int}, dk_ok f k s n m → dk_st (f (s + k)).toInt m m' → dk_ok f (k + 1) s n m'
  | 0, s, n, m, h, h2 => by
    have e : n = m := h
    subst e
    exact ⟨m', h2, rfl⟩
  | k + 1, s, n, m, ⟨n', h1, h3⟩, h2 => ⟨n', h1, dk_ok.snoc h3 (by rw [show s + 1 + k = s + (k + 1) by omega]; exact h2)⟩
theorem dk_ok.congr {f g : Nat → Int32} {m : Int} : ∀ {k s : Nat} {n : Int}, (∀ j, s ≤ j → j < s + k → g j = f j) → dk_ok f k s n m → dk_ok g k s n m
  | 0, _, _, _, h => h
  | k + 1, s, n, he, ⟨n', h1, h3⟩ => ⟨n', by rw [he s (Nat.le_refl s) (by omega)]; exact h1, dk_ok.congr (fun j h4 h5 => he j (by omega) (by omega)) h3⟩
/-- rule w of bank b, where it is told, is a program -/
def dk_pr (S : dg_S) (b w : Nat) : Prop := (S.2.1 16 (3 * b + w)).toInt ≠ -1 → 0 ≤ (S.2.1 16 (3 * b + w)).toInt ∧ (S.2.1 16 (3 * b + w)).toInt ≤ (S.2.1 17 (3 * b + w)).toInt ∧ (S.2.1 17 (3 * b + w)).toInt ≤ 1600 ∧ ∃ m, dk_ok (S.2.1 18) ((S.2.1 17 (3 * b + w)).toInt - (S.2.1 16 (3 * b + w)).toInt).toNat (1600 * b + (S.2.1 16 (3 * b + w)).toInt.toNat) 0 m
def ZWM (S : dg_S) : Prop := ∀ b : Int32, S.1 0 13 = .int b → ∀ w : Nat, w < 3 → dk_pr S b.toNatClampNeg w
theorem ZWM.keep {S S1 : dg_S} {WF : List (Nat × Nat)} {WA : List Nat} (h : ZWM S) (m : dg_sm shM WF WA S S1) (h1 : (0, 13) ∉ WF) (h2 : 16 ∉ WA) (h3 : 17 ∉ WA) (h4 : 18 ∉ WA) : ZWM S1 := by
  intro b hb w hw
  rw [m.1 0 13 _ sM_0 h1] at hb
  unfold dk_pr
  rw [(m.2 16 _ sM_16 h2).1, (m.2 17 _ sM_17 h3).1, (m.2 18 _ sM_18 h4).1]
  exact h b hb w hw
theorem ZWM.at {S : dg_S} {b : Int32} {k : Nat} (h : ZWM S) (hb : S.1 0 13 = .int b) (hk : k < 3) {fr bh : Int32} (hf : S.2.1 16 (3 * b.toNatClampNeg + k) = fr) (hh : S.2.1 17 (3 * b.toNatClampNeg + k) = bh) (ht : (S.2.1 16 (3 * b.toNatClampNeg + k)).toInt ≠ -1) : 0 ≤ fr.toInt ∧ fr.toInt ≤ bh.toInt ∧ bh.toInt ≤ 1600 ∧ ∃ m, dk_ok (S.2.1 18) (bh.toInt - fr.toInt).toNat (1600 * b.toNatClampNeg + fr.toInt.toNat) 0 m := by
  subst hf
  subst hh
  exact h b hb k hk ht
def ZT0M (S : dg_S) : Prop := ∀ b : Int32, S.1 0 13 = .int b → (S.2.1 16 (3 * b.toNatClampNeg + 0)).toInt ≠ -1
def ZT1M (S : dg_S) : Prop := ∀ b : Int32, S.1 0 13 = .int b → (S.2.1 16 (3 * b.toNatClampNeg + 1)).toInt ≠ -1
def ZT2M (S : dg_S) : Prop := ∀ b : Int32, S.1 0 13 = .int b → (S.2.1 16 (3 * b.toNatClampNeg + 2)).toInt ≠ -1
theorem ZT0M.keep {S S1 : dg_S} {WF : List (Nat × Nat)} {WA : List Nat} (h : ZT0M S) (m : dg_sm shM WF WA S S1) (h1 : (0, 13) ∉ WF) (h2 : 16 ∉ WA) : ZT0M S1 := by
  intro b hb
  rw [m.1 0 13 _ sM_0 h1] at hb
  rw [(m.2 16 _ sM_16 h2).1]
  exact h b hb
theorem ZT1M.keep {S S1 : dg_S} {WF : List (Nat × Nat)} {WA : List Nat} (h : ZT1M S) (m : dg_sm shM WF WA S S1) (h1 : (0, 13) ∉ WF) (h2 : 16 ∉ WA) : ZT1M S1 := by
  intro b hb
  rw [m.1 0 13 _ sM_0 h1] at hb
  rw [(m.2 16 _ sM_16 h2).1]
  exact h b hb
theorem ZT2M.keep {S S1 : dg_S} {WF : List (Nat × Nat)} {WA : List Nat} (h : ZT2M S) (m : dg_sm shM WF WA S S1) (h1 : (0, 13) ∉ WF) (h2 : 16 ∉ WA) : ZT2M S1 := by
  intro b hb
  rw [m.1 0 13 _ sM_0 h1] at hb
  rw [(m.2 16 _ sM_16 h2).1]
  exact h b hb
/-! the rows of four that were felt -/
def dk_felt (f : Nat → Int32) (k : Int) : Prop := ∀ j : Nat, 4 * (j : Int) < k → (f (4 * j + 1)).toInt ≤ 6 ∧ (f (4 * j + 2)).toInt ≤ 6
theorem dk_felt.none {f : Nat → Int32} {k : Int} (h : k ≤ 0) : dk_felt f k := fun j hj => by omega
theorem dk_felt.more {f : Nat → Int32} {k : Int} (h : dk_felt f k) {i1 i2 x1 x2 : Int32} (h0 : 0 ≤ k) (hm : k % 4 = 0) (e1 : i1.toInt = k + 1) (e2 : i2.toInt = k + 2) (h1 : x1 = f i1.toNatClampNeg) (h2 : x2 = f i2.toNatClampNeg) (g1 : x1.toInt ≤ 6) (g2 : x2.toInt ≤ 6) {k' : Int} (hk : k' = k + 4) : dk_felt f k' := by
  intro j hj
  by_cases q : 4 * (j : Int) < k
  · exact h j q
  · have a1 : 4 * j + 1 = i1.toNatClampNeg := by rw [dk_clN]; omega
    have a2 : 4 * j + 2 = i2.toNatClampNeg := by rw [dk_clN]; omega
    rw [a1, a2, ← h1, ← h2]
    exact ⟨g1, g2⟩
theorem dk_felt.at1 {f : Nat → Int32} {k : Int} (h : dk_felt f k) {i x : Int32} (hx : x = f i.toNatClampNeg) {j : Int} (h0 : 0 ≤ j) (hj : i.toInt = 4 * j + 1) (hk : 4 * j < k) : x.toInt ≤ 6 := by
  have e : i.toNatClampNeg = 4 * j.toNat + 1 := by rw [dk_clN]; omega
  rw [hx, e]
  exact (h j.toNat (by omega)).1
theorem dk_felt.at2 {f : Nat → Int32} {k : Int} (h : dk_felt f k) {i x : Int32} (hx : x = f i.toNatClampNeg) {j : Int} (h0 : 0 ≤ j) (hj : i.toInt = 4 * j + 2) (hk : 4 * j < k) : x.toInt ≤ 6 := by
  have e : i.toNatClampNeg = 4 * j.toNat + 2 := by rw [dk_clN]; omega
  rw [hx, e]
  exact (h j.toNat (by omega)).2
