/-! the frames as they lie in the reference's rows: kinds, phases, beginnings, bases, operators that wait -/
def c_n (ops : Nat → Int32) (lo hi : Nat) : Nat := dk_cnt ops 43 hi - dk_cnt ops 43 lo
def c_L (fr ph bg bs ops : Nat → Int32) : Nat → Nat → List m_F
  | 0, _ => []
  | d + 1, hi => ((fr d).toInt, (ph d).toInt, decide ((bg d).toInt = 1), c_n ops (bs d).toInt.toNat hi) :: c_L fr ph bg bs ops d (bs d).toInt.toNat
/-- bases rise -/
def c_ok (bs : Nat → Int32) : Nat → Nat → Prop
  | 0, _ => True
  | d + 1, hi => (bs d).toInt.toNat ≤ hi ∧ c_ok bs d (bs d).toInt.toNat
section CL
variable {fr ph bg bs ops fr' ph' bg' bs' ops' : Nat → Int32}
theorem c_n_congr {lo hi : Nat} (hl : lo ≤ hi) (h : ∀ j, j < hi → ops' j = ops j) : c_n ops' lo hi = c_n ops lo hi := by
  unfold c_n
  rw [dk_cnt_congr (f := ops) (g := ops') (n := hi) h, dk_cnt_congr (f := ops) (g := ops') (n := lo) (fun j hj => h j (by omega))]
theorem c_n_nil {lo : Nat} : c_n ops lo lo = 0 := Nat.sub_self _
theorem c_n_push {lo hi : Nat} {t : Int32} (hl : lo ≤ hi) : c_n (upd ops hi t) lo (hi + 1) = c_n ops lo hi + (if t.toInt = 43 then 1 else 0) := by
  have e0 : upd ops hi t hi = t := by unfold upd; rw [if_pos rfl]
  have e1 := dk_cnt_out (f := ops) (k := 43) (j := hi) (x := t) (Nat.le_refl hi)
  have e2 := dk_cnt_out (f := ops) (k := 43) (j := hi) (x := t) hl
  have m := dk_cnt_mono (f := ops) (k := 43) hl
  unfold c_n
  show dk_cnt (upd ops hi t) 43 hi + (if (upd ops hi t hi).toInt = 43 then 1 else 0) - dk_cnt (upd ops hi t) 43 lo = _
  rw [e0, e1, e2]
  omega
theorem c_n_pop {lo hi hi' : Nat} (h1 : lo ≤ hi') (h2 : hi' ≤ hi) (h : ∀ j, hi' ≤ j → j < hi → (ops j).toInt ≠ 43) : c_n ops lo hi' = c_n ops lo hi := by
  have e : ∀ n, hi' ≤ n → n ≤ hi → dk_cnt ops 43 n = dk_cnt ops 43 hi' := by
    intro n
    induction n with
    | zero => intro a b; rw [show hi' = 0 by omega]
    | succ n ih =>
      intro a b
      by_cases q : hi' = n + 1
      · rw [q]
      · have k := dk_cnt_s ops 43 n
        have n1 := h n (by omega) (by omega)
        have i := ih (by omega) (by omega)
        omega
  unfold c_n
  rw [e hi h2 (Nat.le_refl hi)]
theorem c_n_none {lo hi : Nat} (h1 : lo ≤ hi) (h : ∀ j, lo ≤ j → j < hi → (ops j).toInt ≠ 43) : c_n ops lo hi = 0 := by
  rw [← c_n_pop (Nat.le_refl lo) h1 h]
  exact c_n_nil
theorem c_L_congr : ∀ (d hi : Nat), c_ok bs d hi → (∀ j, j < d → fr' j = fr j ∧ ph' j = ph j ∧ bg' j = bg j ∧ bs' j = bs j) → (∀ j, j < hi → ops' j = ops j) → c_L fr' ph' bg' bs' ops' d hi = c_L fr ph bg bs ops d hi
  | 0, hi, _, _, _ => rfl
  | d + 1, hi, hk, h, ho => by
    obtain ⟨a, b, c, e⟩ := h d (Nat.lt_succ_self d)
    show ((fr' d).toInt, (ph' d).toInt, decide ((bg' d).toInt = 1), c_n ops' (bs' d).toInt.toNat hi) :: c_L fr' ph' bg' bs' ops' d (bs' d).toInt.toNat = ((fr d).toInt, (ph d).toInt, decide ((bg d).toInt = 1), c_n ops (bs d).toInt.toNat hi) :: c_L fr ph bg bs ops d (bs d).toInt.toNat
    rw [a, b, c, e, c_n_congr hk.1 ho, c_L_congr d (bs d).toInt.toNat hk.2 (fun j hj => h j (Nat.lt_succ_of_lt hj)) (fun j hj => ho j (Nat.lt_of_lt_of_le hj hk.1))]
/-- the top frame told anew, the others as they were -/
theorem c_L_top {d hi : Nat} (hk : c_ok bs d (bs d).toInt.toNat) (h : ∀ j, j < d → fr' j = fr j ∧ ph' j = ph j ∧ bg' j = bg j ∧ bs' j = bs j) (hb : bs' d = bs d) (ho : ∀ j, j < (bs d).toInt.toNat → ops' j = ops j) : c_L fr' ph' bg' bs' ops' (d + 1) hi = ((fr' d).toInt, (ph' d).toInt, decide ((bg' d).toInt = 1), c_n ops' (bs d).toInt.toNat hi) :: c_L fr ph bg bs ops d (bs d).toInt.toNat := by
  show (_, _, _, c_n ops' (bs' d).toInt.toNat hi) :: c_L fr' ph' bg' bs' ops' d (bs' d).toInt.toNat = _
  rw [hb, c_L_congr d (bs d).toInt.toNat hk h ho]
/-- a frame more -/
theorem c_L_push {d hi : Nat} (hk : c_ok bs d hi) (h : ∀ j, j < d → fr' j = fr j ∧ ph' j = ph j ∧ bg' j = bg j ∧ bs' j = bs j) (hb : (bs' d).toInt.toNat = hi) (ho : ∀ j, j < hi → ops' j = ops j) : c_L fr' ph' bg' bs' ops' (d + 1) hi = ((fr' d).toInt, (ph' d).toInt, decide ((bg' d).toInt = 1), 0) :: c_L fr ph bg bs ops d hi := by
  show (_, _, _, c_n ops' (bs' d).toInt.toNat hi) :: c_L fr' ph' bg' bs' ops' d (bs' d).toInt.toNat = _
  rw [hb, c_L_congr d hi hk h ho, c_n_nil]
theorem c_ok_of {pr : Nat → Int32} {d n : Nat} {on : Int} (h : dk_fs fr ph bg pr bs ops d n on) : c_ok bs d n := by
  have key : ∀ k hi : Nat, k ≤ d → (k = 0 ∨ hi = dk_hi bs d n (k - 1)) → c_ok bs k hi := by
    intro k
    induction k with
    | zero => intro hi _ _; exact trivial
    | succ k ih =>
      intro hi hk hh
      have hh2 : hi = dk_hi bs d n k := by
        rcases hh with hh | hh
        · cases hh
        · exact hh
      have a := (h.2 k (by omega)).1.2
      refine ⟨by rw [hh2]; exact a, ih _ (by omega) ?_⟩
      by_cases z : k = 0
      · exact Or.inl z
      · refine Or.inr ?_
        unfold dk_hi
        rw [if_pos (by omega), show k - 1 + 1 = k by omega]
  have h1 := h.1.1
  exact key d n (Nat.le_refl d) (Or.inr (dk_hi_top h1).symm)
end CL
