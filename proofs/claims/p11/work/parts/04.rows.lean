/-! rows whose numbers depend on their place; how many places hold a number -/
def dk_row (n : Nat) (f : Nat → Int32) (P : Int → Int → Prop) : Prop := ∀ j : Nat, j < n → P (j : Int) (f j).toInt
/-- a pit's cells: what is open stands within the seam's places -/
def dk_Pcel (j v : Int) : Prop := 0 ≤ v ∧ v ≤ 255 ∧ (254 ≤ v → 8 ≤ j ∧ j ≤ 63)
/-- a plan's places: those that are told are places of cells -/
def dk_Ppl (r : Int32) (j v : Int) : Prop := 0 ≤ v ∧ v ≤ 63 ∧ (j < r.toInt → 8 ≤ v)
/-- how many of the first n places hold k -/
def dk_cnt (f : Nat → Int32) (k : Int) : Nat → Nat
  | 0 => 0
  | n + 1 => dk_cnt f k n + if (f n).toInt = k then 1 else 0
/-- how far: none, or at most as many as are found -/
def dk_far (f : Nat → Int32) : Prop := dk_all 72 f (-1) (72 - (dk_cnt f (-1) 72 : Int))
theorem dk_inT {i : Int32} {n : Nat} (hin : vp_in i n) : ((i.toNatClampNeg : Nat) : Int) = i.toInt ∧ i.toNatClampNeg < n := by
  have h := vp_in_iff.mp hin
  rw [dk_clN]
  omega
theorem dk_row_at {n : Nat} {f : Nat → Int32} {P : Int → Int → Prop} (h : dk_row n f P) {i : Int32} (hin : vp_in i n) {x : Int32} (hx : x = f i.toNatClampNeg) : P i.toInt x.toInt := by
  subst hx
  have h1 := h _ (dk_inT hin).2
  rw [(dk_inT hin).1] at h1
  exact h1
theorem dk_row_upd {n : Nat} {f f' : Nat → Int32} {P : Int → Int → Prop} (h : dk_row n f P) {i : Int32} (hin : vp_in i n) {x : Int32} (hx : P i.toInt x.toInt) (hf : f' = upd f i.toNatClampNeg x) : dk_row n f' P := by
  subst hf
  intro j hj
  unfold upd
  split
  · rename_i e
    subst e
    rw [(dk_inT hin).1]
    exact hx
  · exact h j hj
theorem dk_row_w {n : Nat} {f : Nat → Int32} {P P' : Int → Int → Prop} (h : dk_row n f P) (hw : ∀ j v : Int, P j v → P' j v) : dk_row n f P' := fun j hj => hw _ _ (h j hj)
theorem dk_row_cpy {n0 n1 : Nat} {f h : Nat → Int32} {P : Int → Int → Prop} (hf : dk_row n0 f P) (hg : dk_row n1 h P) (sp dp n : Nat) (e : sp = dp) (h0 : sp + n ≤ n0) : dk_row n1 (va_cpy f h sp dp n) P := by
  subst e
  intro j hj
  by_cases q : sp ≤ j ∧ j < sp + n
  · rw [pk_cpy_in q.1 q.2, show sp + (j - sp) = j by omega]
    exact hf j (by omega)
  · rw [pk_cpy_out (by omega)]
    exact hg j hj
theorem dk_cel_all {n : Nat} {f : Nat → Int32} (h : dk_row n f dk_Pcel) : dk_all n f 0 255 := fun j hj => ⟨(h j hj).1, (h j hj).2.1⟩
theorem dk_all_cel {n : Nat} {f : Nat → Int32} {lo hi : Int} (h : dk_all n f lo hi) (h0 : 0 ≤ lo) (h1 : hi < 254) : dk_row n f dk_Pcel := fun j hj => ⟨by have := h j hj; omega, by have := h j hj; omega, by have := h j hj; omega⟩
theorem dk_cel_c {n : Nat} {v : Int32} (h : 0 ≤ v.toInt ∧ v.toInt < 254) : dk_row n (fun _ => v) dk_Pcel := fun j _ => by
  show 0 ≤ v.toInt ∧ v.toInt ≤ 255 ∧ (254 ≤ v.toInt → 8 ≤ (j : Int) ∧ (j : Int) ≤ 63)
  omega
theorem dk_ppl_all {n : Nat} {f : Nat → Int32} {r : Int32} (h : dk_row n f (dk_Ppl r)) : dk_all n f 0 63 := fun j hj => ⟨(h j hj).1, (h j hj).2.1⟩
theorem dk_all_ppl {n : Nat} {f : Nat → Int32} {r : Int32} {lo hi : Int} (h : dk_all n f lo hi) (h0 : 8 ≤ lo) (h1 : hi ≤ 63) : dk_row n f (dk_Ppl r) := fun j hj => ⟨by have := h j hj; omega, by have := h j hj; omega, by have := h j hj; omega⟩
theorem dk_all_ppl0 {n : Nat} {f : Nat → Int32} {r : Int32} {lo hi : Int} (h : dk_all n f lo hi) (h0 : 0 ≤ lo) (h1 : hi ≤ 63) (hr : r.toInt ≤ 0) : dk_row n f (dk_Ppl r) := fun j hj => ⟨by have := h j hj; omega, by have := h j hj; omega, by omega⟩
theorem dk_ppl_w {n : Nat} {f : Nat → Int32} {r r' : Int32} (h : dk_row n f (dk_Ppl r)) (hr : r'.toInt ≤ r.toInt) : dk_row n f (dk_Ppl r') := fun j hj => ⟨(h j hj).1, (h j hj).2.1, fun q => (h j hj).2.2 (by omega)⟩
/-- one more row is told -/
theorem dk_ppl_more {n : Nat} {f f' : Nat → Int32} {r r' x : Int32} (h : dk_row n f (dk_Ppl r)) (hin : vp_in r n) (hx : 8 ≤ x.toInt ∧ x.toInt ≤ 63) (hr : r'.toInt = r.toInt + 1) (hf : f' = upd f r.toNatClampNeg x) : dk_row n f' (dk_Ppl r') := by
  subst hf
  intro j hj
  have e := dk_inT hin
  unfold upd
  split
  · exact ⟨by omega, by omega, fun _ => by omega⟩
  · rename_i q
    exact ⟨(h j hj).1, (h j hj).2.1, fun z => (h j hj).2.2 (by omega)⟩
theorem dk_cnt_le (f : Nat → Int32) (k : Int) : ∀ n : Nat, dk_cnt f k n ≤ n
  | 0 => Nat.le_refl 0
  | n + 1 => by
    have := dk_cnt_le f k n
    unfold dk_cnt
    split <;> omega
theorem dk_cnt_c {v : Int32} {k : Int} (h : v.toInt = k) : ∀ n : Nat, dk_cnt (fun _ => v) k n = n
  | 0 => rfl
  | n + 1 => by
    have := dk_cnt_c h n
    unfold dk_cnt
    rw [if_pos h, this]
theorem dk_cnt_out {f : Nat → Int32} {k : Int} {j : Nat} {x : Int32} : ∀ {n : Nat}, n ≤ j → dk_cnt (upd f j x) k n = dk_cnt f k n
  | 0, _ => rfl
  | n + 1, h => by
    have h1 := dk_cnt_out (f := f) (k := k) (x := x) (n := n) (j := j) (by omega)
    unfold dk_cnt
    rw [h1]
    have e : upd f j x n = f n := by
      unfold upd
      rw [if_neg (by omega)]
    rw [e]
theorem dk_cnt_in {f : Nat → Int32} {k : Int} {j : Nat} {x : Int32} (hj : (f j).toInt = k) (hx : x.toInt ≠ k) : ∀ {n : Nat}, j < n → dk_cnt (upd f j x) k n + 1 = dk_cnt f k n
  | 0, h => by omega
  | n + 1, h => by
    unfold dk_cnt
    by_cases q : j = n
    · subst q
      have e : upd f j x j = x := by
        unfold upd
        rw [if_pos rfl]
      rw [dk_cnt_out (Nat.le_refl j), e, if_neg hx, if_pos hj]
    · have h1 := dk_cnt_in (f := f) (k := k) (x := x) hj hx (n := n) (j := j) (by omega)
      have e : upd f j x n = f n := by
        unfold upd
        rw [if_neg (by omega)]
      rw [e]
      omega
theorem dk_cnt_hit {f f' : Nat → Int32} {k : Int} {n : Nat} {i x xr : Int32} (hin : vp_in i n) (hr : xr = f i.toNatClampNeg) (hk : xr.toInt = k) (hx : x.toInt ≠ k) (hf : f' = upd f i.toNatClampNeg x) : dk_cnt f' k n + 1 = dk_cnt f k n := by
  subst hf
  subst hr
  exact dk_cnt_in hk hx (dk_inT hin).2
theorem dk_far_all {f : Nat → Int32} (h : dk_far f) : dk_all 72 f (-1) 72 := fun j hj => ⟨(h j hj).1, Int.le_trans (h j hj).2 (by omega)⟩
theorem dk_far_c : dk_far (fun _ => -1) := by
  intro j hj
  rw [dk_cnt_c (show (-1 : Int32).toInt = -1 by decide +kernel)]
  show -1 ≤ (-1 : Int32).toInt ∧ (-1 : Int32).toInt ≤ 72 - ((72 : Nat) : Int)
  decide +kernel
theorem dk_far_upd {f f' : Nat → Int32} {i x xr : Int32} (h : dk_far f) (hin : vp_in i 72) (hr : xr = f i.toNatClampNeg) (hk : xr.toInt = -1) (hx : 0 ≤ x.toInt) (hx2 : x.toInt ≤ 73 - (dk_cnt f (-1) 72 : Int)) (hf : f' = upd f i.toNatClampNeg x) : dk_far f' := by
  have hc := dk_cnt_hit (k := -1) hin hr hk (by omega) hf
  have e : ((dk_cnt f' (-1) 72 : Nat) : Int) = (dk_cnt f (-1) 72 : Int) - 1 := by omega
  intro j hj
  rw [e]
  rw [hf]
  unfold upd
  split
  · omega
  · have := h j hj
    omega
/-- a copy of the whole row -/
theorem dk_row_cpyA {n0 n1 : Nat} {f h : Nat → Int32} {P : Int → Int → Prop} (hf : dk_row n0 f P) (sp dp n : Nat) (e1 : sp = 0) (e2 : dp = 0) (hn : n1 ≤ n) (h0 : sp + n ≤ n0) : dk_row n1 (va_cpy f h sp dp n) P := by
  subst e1
  subst e2
  intro j hj
  rw [pk_cpy_in (Nat.zero_le j) (by omega), show 0 + (j - 0) = j by omega]
  exact hf j (by omega)
