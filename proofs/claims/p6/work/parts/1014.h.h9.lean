/-! the words of a text: what the splitter's loops know -/
section TW
variable {tb : Nat → Int32} {n : Nat}
theorem t_l_iff {v : Int32} : t_l v = true ↔ 97 ≤ v.toInt ∧ v.toInt ≤ 122 := by
  unfold t_l
  simp only [Bool.and_eq_true, decide_eq_true_eq]
theorem t_d_iff {v : Int32} : t_d v = true ↔ 48 ≤ v.toInt ∧ v.toInt ≤ 57 := by
  unfold t_d
  simp only [Bool.and_eq_true, decide_eq_true_eq]
theorem t_l_f {v : Int32} (h : ¬ (97 ≤ v.toInt ∧ v.toInt ≤ 122)) : t_l v = false := by
  cases q : t_l v with
  | false => rfl
  | true => exact absurd (t_l_iff.mp q) h
theorem t_d_f {v : Int32} (h : ¬ (48 ≤ v.toInt ∧ v.toInt ≤ 57)) : t_d v = false := by
  cases q : t_d v with
  | false => rfl
  | true => exact absurd (t_d_iff.mp q) h
theorem t_b_f {v : Int32} (h : v.toInt ≠ 32) (h2 : v.toInt ≠ 10) : t_b v = false := by
  unfold t_b
  simp [h, h2]
theorem t_b_t {v : Int32} (h : v.toInt = 32 ∨ v.toInt = 10) : t_b v = true := by
  unfold t_b
  simp [h]
/-- a run of places, one further -/
theorem tl_step {p : Nat → Prop} {a : Nat} {x x' : Int32} (h : ∀ j : Nat, a ≤ j → j < x.toNatClampNeg → p j) (hx : p x.toNatClampNeg) (hj : x'.toInt = x.toInt + 1) (h0 : 0 ≤ x.toInt) : ∀ j : Nat, a ≤ j → j < x'.toNatClampNeg → p j := fun j h1 h2 => by
  have e1 := dk_clN x
  have e2 := dk_clN x'
  by_cases q : j = x.toNatClampNeg
  · rw [q]
    exact hx
  · exact h j h1 (by omega)
theorem tl_zero {p : Nat → Prop} {x : Int32} : ∀ j : Nat, x.toNatClampNeg ≤ j → j < x.toNatClampNeg → p j := fun j h1 h2 => absurd h2 (by omega)
theorem t_wd_no {j : Nat} (h : t_l (tb j) = false) : t_wd tb n j = false := by
  unfold t_wd
  rw [h, Bool.and_false]
theorem t_nm_no {j : Nat} (h : t_d (tb j) = false) : t_nm tb n j = false := by
  unfold t_nm
  rw [h, Bool.and_false]
theorem t_wd_ge {j : Nat} (h : n ≤ j) : t_wd tb n j = false := by
  cases q : t_wd tb n j with
  | false => rfl
  | true => exact absurd (t_wd_lt j q) (by omega)
theorem t_nm_ge {j : Nat} (h : n ≤ j) : t_nm tb n j = false := by
  cases q : t_nm tb n j with
  | false => rfl
  | true => exact absurd (t_nm_lt j q) (by omega)
theorem t_en_word {s e : Nat} (hn : n ≤ 1600) (h0 : s < e) (he : e ≤ n) (h : ∀ j : Nat, s ≤ j → j < e → t_l (tb j) = true) (h3 : t_wd tb n e = false) : t_en tb n s = e := by
  unfold t_en
  rw [if_pos (h s (Nat.le_refl s) h0)]
  exact t_run_eq t_wd_lt (by omega) (Nat.le_of_lt h0) (fun j h1 h2 => by unfold t_wd; rw [h j h1 h2, decide_eq_true (by omega : j < n)]; rfl) h3
theorem t_ld {v : Int32} (h : t_d v = true) : t_l v = false := t_l_f (by have := t_d_iff.mp h; omega)
theorem t_en_numb {s e : Nat} (hn : n ≤ 1600) (h0 : s < e) (he : e ≤ n) (h : ∀ j : Nat, s ≤ j → j < e → t_d (tb j) = true) (h3 : t_nm tb n e = false) : t_en tb n s = e := by
  have h1 := h s (Nat.le_refl s) h0
  unfold t_en
  rw [if_neg (by rw [t_ld h1]; decide), if_pos h1]
  exact t_run_eq t_nm_lt (by omega) (Nat.le_of_lt h0) (fun j h1 h2 => by unfold t_nm; rw [h j h1 h2, decide_eq_true (by omega : j < n)]; rfl) h3
theorem t_en_sign {s : Nat} (h1 : t_l (tb s) = false) (h2 : t_d (tb s) = false) : t_en tb n s = s + 1 := by
  unfold t_en
  rw [if_neg (by rw [h1]; decide), if_neg (by rw [h2]; decide)]
/-- behind a word, a number no other may begin -/
theorem t_adj_en {s : Nat} (hs : s < n) (h : t_l (tb s) = true ∨ t_d (tb s) = true) : t_adj tb (t_en tb n s) = true := by
  have g := t_en_gt (b := tb) hs
  have key : t_l (tb (t_en tb n s - 1)) = true ∨ t_d (tb (t_en tb n s - 1)) = true := by
    by_cases q : t_l (tb s) = true
    · have e : t_en tb n s = t_run (t_wd tb n) 1600 s := by unfold t_en; rw [if_pos q]
      rw [e] at g ⊢
      have := t_run_in (p := t_wd tb n) 1600 s (t_run (t_wd tb n) 1600 s - 1) (by omega) (by omega)
      unfold t_wd at this
      simp only [Bool.and_eq_true] at this
      exact Or.inl this.2
    · have q2 : t_d (tb s) = true := h.resolve_left q
      have e : t_en tb n s = t_run (t_nm tb n) 1600 s := by unfold t_en; rw [if_neg q, if_pos q2]
      rw [e] at g ⊢
      have := t_run_in (p := t_nm tb n) 1600 s (t_run (t_nm tb n) 1600 s - 1) (by omega) (by omega)
      unfold t_nm at this
      simp only [Bool.and_eq_true] at this
      exact Or.inr this.2
  unfold t_adj
  rw [decide_eq_true (by omega : 0 < t_en tb n s)]
  rcases key with k | k <;> rw [k] <;> simp
theorem t_adj_no {a : Nat} (h1 : t_l (tb a) = false) (h2 : t_d (tb a) = false) : t_adj tb (a + 1) = false := by
  unfold t_adj
  rw [Nat.add_sub_cancel, h1, h2]
  simp
/-! letters, a number, an OWN WORD -/
theorem t_let_b {s e : Nat} (h : ∀ j : Nat, s ≤ j → j < e → t_l (tb j) = true) : ∀ i : Nat, 0 ≤ t_let tb s e i ∧ t_let tb s e i + 1 ≤ 27 ^ i
  | 0 => ⟨Int.le_refl 0, by show (0 : Int) + 1 ≤ 27 ^ 0; decide⟩
  | i + 1 => by
    have ih := t_let_b h i
    show 0 ≤ 27 * t_let tb s e i + (if s + i < e then (tb (s + i)).toInt - 96 else 0) ∧ 27 * t_let tb s e i + (if s + i < e then (tb (s + i)).toInt - 96 else 0) + 1 ≤ 27 ^ i * 27
    by_cases q : s + i < e
    · have := t_l_iff.mp (h (s + i) (Nat.le_add_right s i) q)
      rw [if_pos q]
      omega
    · rw [if_neg q]
      omega
theorem t_let_5 {s e : Nat} {k : Int32} (h : ∀ j : Nat, s ≤ j → j < e → t_l (tb j) = true) (h0 : 0 ≤ k.toInt) (hk : k.toInt ≤ 5) : 0 ≤ t_let tb s e k.toNatClampNeg ∧ t_let tb s e k.toNatClampNeg ≤ 14348906 := by
  have b := t_let_b h k.toNatClampNeg
  have e1 := dk_clN k
  have p : ∀ i : Nat, i ≤ 5 → (27 : Int) ^ i ≤ 14348907 := by decide
  have := p k.toNatClampNeg (by omega)
  omega
theorem t_let_go1 {s e k k' xi x z w : Int32} (hz : z.toInt = t_let tb s.toNatClampNeg e.toNatClampNeg k.toNatClampNeg) (kx : tb xi.toNatClampNeg = x) (hi : xi.toInt = s.toInt + k.toInt) (h0 : 0 ≤ s.toInt ∧ 0 ≤ k.toInt) (hs : s.toInt + k.toInt < e.toInt) (hk : k'.toInt = k.toInt + 1) (hw : w.toInt = 27 * z.toInt + (x.toInt - 96)) : w.toInt = t_let tb s.toNatClampNeg e.toNatClampNeg k'.toNatClampNeg := by
  have e1 := dk_clN s
  have e2 := dk_clN e
  have e3 := dk_clN k
  have e4 := dk_clN k'
  have e5 := dk_clN xi
  rw [show k'.toNatClampNeg = k.toNatClampNeg + 1 by omega]
  show w.toInt = 27 * t_let tb _ _ _ + (if s.toNatClampNeg + k.toNatClampNeg < e.toNatClampNeg then (tb (s.toNatClampNeg + k.toNatClampNeg)).toInt - 96 else 0)
  rw [if_pos (by omega), show s.toNatClampNeg + k.toNatClampNeg = xi.toNatClampNeg by omega, kx]
  omega
theorem t_let_go0 {s e k k' z w : Int32} (hz : z.toInt = t_let tb s.toNatClampNeg e.toNatClampNeg k.toNatClampNeg) (h0 : 0 ≤ s.toInt ∧ 0 ≤ k.toInt) (hs : ¬ s.toInt + k.toInt < e.toInt) (hk : k'.toInt = k.toInt + 1) (hw : w.toInt = 27 * z.toInt) : w.toInt = t_let tb s.toNatClampNeg e.toNatClampNeg k'.toNatClampNeg := by
  have e1 := dk_clN s
  have e2 := dk_clN e
  have e3 := dk_clN k
  have e4 := dk_clN k'
  rw [show k'.toNatClampNeg = k.toNatClampNeg + 1 by omega]
  show w.toInt = 27 * t_let tb _ _ _ + (if s.toNatClampNeg + k.toNatClampNeg < e.toNatClampNeg then (tb (s.toNatClampNeg + k.toNatClampNeg)).toInt - 96 else 0)
  rw [if_neg (by omega)]
  omega
theorem t_let_z {s e k z : Int32} (hk : k.toInt = 0) (hz : z.toInt = 0) : z.toInt = t_let tb s.toNatClampNeg e.toNatClampNeg k.toNatClampNeg := by
  have e1 := dk_clN k
  rw [show k.toNatClampNeg = 0 by omega, hz]
  rfl
theorem t_let_end {s e k z : Int32} (hz : z.toInt = t_let tb s.toNatClampNeg e.toNatClampNeg k.toNatClampNeg) (hk : k.toInt = 6) : z.toInt = t_let tb s.toNatClampNeg e.toNatClampNeg 6 := by
  have e1 := dk_clN k
  rw [hz, show k.toNatClampNeg = 6 by omega]
theorem t_num_b {s : Nat} : ∀ i : Nat, (∀ j : Nat, s ≤ j → j < s + i → t_d (tb j) = true) → 0 ≤ t_num tb s i ∧ t_num tb s i + 1 ≤ 10 ^ i
  | 0, _ => ⟨Int.le_refl 0, by show (0 : Int) + 1 ≤ 10 ^ 0; decide⟩
  | i + 1, h => by
    have ih := t_num_b i fun j h1 h2 => h j h1 (by omega)
    have := t_d_iff.mp (h (s + i) (Nat.le_add_right s i) (by omega))
    show 0 ≤ 10 * t_num tb s i + ((tb (s + i)).toInt - 48) ∧ 10 * t_num tb s i + ((tb (s + i)).toInt - 48) + 1 ≤ 10 ^ i * 10
    omega
theorem t_num_3 {s e k z : Int32} (hz : z.toInt = t_num tb s.toNatClampNeg (k.toNatClampNeg - s.toNatClampNeg)) (h : ∀ j : Nat, s.toNatClampNeg ≤ j → j < e.toNatClampNeg → t_d (tb j) = true) (h0 : 0 ≤ s.toInt ∧ s.toInt ≤ k.toInt) (h1 : k.toInt < e.toInt) (h2 : e.toInt - s.toInt ≤ 4) : 0 ≤ z.toInt ∧ z.toInt ≤ 999 := by
  have e1 := dk_clN s
  have e2 := dk_clN e
  have e3 := dk_clN k
  have b := t_num_b (tb := tb) (s := s.toNatClampNeg) (k.toNatClampNeg - s.toNatClampNeg) fun j g1 g2 => h j g1 (by omega)
  have p : ∀ i : Nat, i ≤ 3 → (10 : Int) ^ i ≤ 1000 := by decide
  have := p (k.toNatClampNeg - s.toNatClampNeg) (by omega)
  omega
theorem t_num_z {s z : Int32} (hz : z.toInt = 0) : z.toInt = t_num tb s.toNatClampNeg (s.toNatClampNeg - s.toNatClampNeg) := by
  rw [Nat.sub_self, hz]
  rfl
theorem t_num_go {s k k' x z w : Int32} (hz : z.toInt = t_num tb s.toNatClampNeg (k.toNatClampNeg - s.toNatClampNeg)) (kx : tb k.toNatClampNeg = x) (h0 : 0 ≤ s.toInt ∧ s.toInt ≤ k.toInt) (hk : k'.toInt = k.toInt + 1) (hw : w.toInt = 10 * z.toInt + x.toInt - 48) : w.toInt = t_num tb s.toNatClampNeg (k'.toNatClampNeg - s.toNatClampNeg) := by
  have e1 := dk_clN s
  have e3 := dk_clN k
  have e4 := dk_clN k'
  rw [show k'.toNatClampNeg - s.toNatClampNeg = k.toNatClampNeg - s.toNatClampNeg + 1 by omega]
  show w.toInt = 10 * t_num tb s.toNatClampNeg (k.toNatClampNeg - s.toNatClampNeg) + ((tb (s.toNatClampNeg + (k.toNatClampNeg - s.toNatClampNeg))).toInt - 48)
  rw [show s.toNatClampNeg + (k.toNatClampNeg - s.toNatClampNeg) = k.toNatClampNeg by omega, kx]
  omega
/-- a place of the constant text -/
def dk_wch (i : Int32) : Int32 := ((dk_by.getD i.toNatClampNeg 0 &&& 255).toUInt32 % 65536).toInt32
theorem t_wch {i : Int32} (h : 0 ≤ i.toInt ∧ i.toInt ≤ 161) : (dk_wch i).toInt = (t_words.getD (i.toNatClampNeg / 6) []).getD (i.toNatClampNeg % 6) 0 := by
  have all : ∀ j : Nat, j < 162 → (((dk_by.getD j 0 &&& 255).toUInt32 % 65536).toInt32).toInt = (t_words.getD (j / 6) []).getD (j % 6) 0 := by decide +kernel
  have e1 := dk_clN i
  exact all i.toNatClampNeg (by omega)
theorem t_ch_in {s e k xi x : Int32} (kx : tb xi.toNatClampNeg = x) (hi : xi.toInt = s.toInt + k.toInt) (h0 : 0 ≤ s.toInt ∧ 0 ≤ k.toInt) (hs : s.toInt + k.toInt < e.toInt) : t_ch tb s.toNatClampNeg e.toNatClampNeg k.toNatClampNeg = x.toInt := by
  have e1 := dk_clN s
  have e2 := dk_clN e
  have e3 := dk_clN k
  have e5 := dk_clN xi
  unfold t_ch
  rw [if_pos (by omega), show s.toNatClampNeg + k.toNatClampNeg = xi.toNatClampNeg by omega, kx]
theorem t_ch_out {s e k : Int32} (h0 : 0 ≤ s.toInt ∧ 0 ≤ k.toInt) (hs : ¬ s.toInt + k.toInt < e.toInt) : t_ch tb s.toNatClampNeg e.toNatClampNeg k.toNatClampNeg = (32 : Int32).toInt := by
  have e1 := dk_clN s
  have e2 := dk_clN e
  have e3 := dk_clN k
  unfold t_ch
  rw [if_neg (by omega)]
  decide +kernel
theorem t_sm_go {s e word k k' z z' lv cv i : Int32} (hr : z.toInt = ((t_sm tb s.toNatClampNeg e.toNatClampNeg word.toNatClampNeg k.toNatClampNeg : Nat) : Int)) (hch : t_ch tb s.toNatClampNeg e.toNatClampNeg k.toNatClampNeg = lv.toInt) (hi : i.toInt = 6 * word.toInt + k.toInt) (hc : cv = dk_wch i) (h0 : 0 ≤ word.toInt ∧ word.toInt ≤ 26 ∧ 0 ≤ k.toInt ∧ k.toInt ≤ 5) (hk : k'.toInt = k.toInt + 1) (hs : lv.toInt = cv.toInt ∧ z'.toInt = z.toInt + 1 ∨ lv.toInt ≠ cv.toInt ∧ z'.toInt = z.toInt) : z'.toInt = ((t_sm tb s.toNatClampNeg e.toNatClampNeg word.toNatClampNeg k'.toNatClampNeg : Nat) : Int) := by
  have e2 := dk_clN word
  have e3 := dk_clN k
  have e4 := dk_clN k'
  have e5 := dk_clN i
  have hw := t_wch (i := i) (by omega)
  rw [show i.toNatClampNeg / 6 = word.toNatClampNeg by omega, show i.toNatClampNeg % 6 = k.toNatClampNeg by omega, ← hc] at hw
  rw [show k'.toNatClampNeg = k.toNatClampNeg + 1 by omega]
  show z'.toInt = ((t_sm tb s.toNatClampNeg e.toNatClampNeg word.toNatClampNeg k.toNatClampNeg + (if t_ch tb s.toNatClampNeg e.toNatClampNeg k.toNatClampNeg = (t_words.getD word.toNatClampNeg []).getD k.toNatClampNeg 0 then 1 else 0) : Nat) : Int)
  rw [hch, ← hw]
  rcases hs with ⟨a, b⟩ | ⟨a, b⟩
  · rw [if_pos a]
    omega
  · rw [if_neg a]
    omega
theorem t_sm_z {s e word k z : Int32} (hz : z.toInt = 0) (hk : k.toInt = 0) : z.toInt = ((t_sm tb s.toNatClampNeg e.toNatClampNeg word.toNatClampNeg k.toNatClampNeg : Nat) : Int) := by
  have e1 := dk_clN k
  rw [show k.toNatClampNeg = 0 by omega, hz]
  rfl
theorem t_sm_end {s e word k z : Int32} (hr : z.toInt = ((t_sm tb s.toNatClampNeg e.toNatClampNeg word.toNatClampNeg k.toNatClampNeg : Nat) : Int)) (hk : k.toInt = 6) : z.toInt = ((t_sm tb s.toNatClampNeg e.toNatClampNeg word.toNatClampNeg 6 : Nat) : Int) := by
  have e2 := dk_clN k
  rw [hr, show k.toNatClampNeg = 6 by omega]
theorem t_own_hit32 {s e word z : Int32} (ro : ∀ j : Nat, j < word.toNatClampNeg → t_mt tb s.toNatClampNeg e.toNatClampNeg j = false) (hr : z.toInt = ((t_sm tb s.toNatClampNeg e.toNatClampNeg word.toNatClampNeg 6 : Nat) : Int)) (hz : z.toInt = 6) (hw : 0 ≤ word.toInt ∧ word.toInt ≤ 26) : word.toInt = t_own tb s.toNatClampNeg e.toNatClampNeg := by
  have e1 := dk_clN word
  rw [t_own_hit (w := word.toNatClampNeg) (by omega) ro (t_mt_sm.mpr (by omega))]
  omega
theorem t_own_next {s e word word' z : Int32} (ro : ∀ j : Nat, j < word.toNatClampNeg → t_mt tb s.toNatClampNeg e.toNatClampNeg j = false) (hr : z.toInt = ((t_sm tb s.toNatClampNeg e.toNatClampNeg word.toNatClampNeg 6 : Nat) : Int)) (hz : z.toInt ≠ 6) (hw : 0 ≤ word.toInt) (hj : word'.toInt = word.toInt + 1) : ∀ j : Nat, j < word'.toNatClampNeg → t_mt tb s.toNatClampNeg e.toNatClampNeg j = false := fun j h => by
  have e1 := dk_clN word
  have e3 := dk_clN word'
  by_cases q : j = word.toNatClampNeg
  · rw [q]
    cases z2 : t_mt tb s.toNatClampNeg e.toNatClampNeg word.toNatClampNeg with
    | false => rfl
    | true =>
      have := t_mt_sm.mp z2
      omega
  · exact ro j (by omega)
theorem t_own_none {s e word r : Int32} (ro : ∀ j : Nat, j < word.toNatClampNeg → t_mt tb s.toNatClampNeg e.toNatClampNeg j = false) (hw : 27 ≤ word.toInt) (hr : r.toInt = -1) : r.toInt = t_own tb s.toNatClampNeg e.toNatClampNeg := by
  have e1 := dk_clN word
  rw [t_own_no fun j hj => ro j (by omega), hr]
/-! what a token is -/
theorem t_K_wl {s e v pe : Int32} (h : t_l (tb s.toNatClampNeg) = true) (h0 : 0 ≤ s.toInt) (h1 : s.toInt < e.toInt) (hv1 : 6 < e.toInt - s.toInt → v.toInt = s.toInt + 6) (hv2 : ¬ 6 < e.toInt - s.toInt → v.toInt = s.toInt) (hw : 6 < e.toInt - s.toInt ∨ s.toInt = pe.toInt) : (5 : Int32).toInt = t_K tb s.toNatClampNeg e.toNatClampNeg (decide (pe.toInt = s.toInt)) ∧ v.toInt = t_V tb s.toNatClampNeg e.toNatClampNeg (decide (pe.toInt = s.toInt)) := by
  have e1 := dk_clN s
  have e2 := dk_clN e
  unfold t_K t_V
  rw [if_pos h, if_pos h]
  by_cases q : 6 < e.toNatClampNeg - s.toNatClampNeg
  · rw [if_pos (Or.inl q), if_pos q]
    exact ⟨by decide +kernel, by omega⟩
  · have q2 : pe.toInt = s.toInt := by omega
    have q3 : decide (pe.toInt = s.toInt) = true := decide_eq_true q2
    rw [if_pos (Or.inr q3), if_neg q, if_pos q3]
    exact ⟨by decide +kernel, by omega⟩
theorem t_K_wd {s e v pe : Int32} (h : t_d (tb s.toNatClampNeg) = true) (h0 : 0 ≤ s.toInt) (h1 : s.toInt < e.toInt) (hv1 : 4 < e.toInt - s.toInt → v.toInt = s.toInt + 4) (hv2 : ¬ 4 < e.toInt - s.toInt → v.toInt = s.toInt) (hw : 4 < e.toInt - s.toInt ∨ s.toInt = pe.toInt) : (5 : Int32).toInt = t_K tb s.toNatClampNeg e.toNatClampNeg (decide (pe.toInt = s.toInt)) ∧ v.toInt = t_V tb s.toNatClampNeg e.toNatClampNeg (decide (pe.toInt = s.toInt)) := by
  have e1 := dk_clN s
  have e2 := dk_clN e
  unfold t_K t_V
  have hl : ¬ t_l (tb s.toNatClampNeg) = true := by rw [t_ld h]; decide
  rw [if_neg hl, if_neg hl, if_pos h, if_pos h]
  by_cases q : 4 < e.toNatClampNeg - s.toNatClampNeg
  · rw [if_pos (Or.inl q), if_pos q]
    exact ⟨by decide +kernel, by omega⟩
  · have q2 : pe.toInt = s.toInt := by omega
    have q3 : decide (pe.toInt = s.toInt) = true := decide_eq_true q2
    rw [if_pos (Or.inr q3), if_neg q, if_pos q3]
    exact ⟨by decide +kernel, by omega⟩
theorem t_K_name {s e v o pe : Int32} (h : t_l (tb s.toNatClampNeg) = true) (h0 : 0 ≤ s.toInt) (h1 : s.toInt < e.toInt) (hw : ¬ (6 < e.toInt - s.toInt ∨ s.toInt = pe.toInt)) (ho : o.toInt = t_own tb s.toNatClampNeg e.toNatClampNeg) (ho1 : o.toInt = -1) (hv : v.toInt = t_let tb s.toNatClampNeg e.toNatClampNeg 6) : (2 : Int32).toInt = t_K tb s.toNatClampNeg e.toNatClampNeg (decide (pe.toInt = s.toInt)) ∧ v.toInt = t_V tb s.toNatClampNeg e.toNatClampNeg (decide (pe.toInt = s.toInt)) := by
  have e1 := dk_clN s
  have e2 := dk_clN e
  have q3 : ¬ decide (pe.toInt = s.toInt) = true := by rw [decide_eq_true_eq]; omega
  have q4 : ¬ (6 < e.toNatClampNeg - s.toNatClampNeg ∨ decide (pe.toInt = s.toInt) = true) := by rintro (a | a); omega; exact q3 a
  unfold t_K t_V
  have q5 : ¬ 6 < e.toNatClampNeg - s.toNatClampNeg := by omega
  have q6 : t_own tb s.toNatClampNeg e.toNatClampNeg = -1 := by omega
  rw [if_pos h, if_pos h, if_neg q4, if_neg q5, if_neg q3, if_pos q6, if_pos q6]
  exact ⟨by decide +kernel, hv⟩
theorem t_K_own {s e o pe : Int32} (h : t_l (tb s.toNatClampNeg) = true) (h0 : 0 ≤ s.toInt) (h1 : s.toInt < e.toInt) (hw : ¬ (6 < e.toInt - s.toInt ∨ s.toInt = pe.toInt)) (ho : o.toInt = t_own tb s.toNatClampNeg e.toNatClampNeg) (ho1 : o.toInt ≠ -1) : (1 : Int32).toInt = t_K tb s.toNatClampNeg e.toNatClampNeg (decide (pe.toInt = s.toInt)) ∧ o.toInt = t_V tb s.toNatClampNeg e.toNatClampNeg (decide (pe.toInt = s.toInt)) := by
  have e1 := dk_clN s
  have e2 := dk_clN e
  have q3 : ¬ decide (pe.toInt = s.toInt) = true := by rw [decide_eq_true_eq]; omega
  have q4 : ¬ (6 < e.toNatClampNeg - s.toNatClampNeg ∨ decide (pe.toInt = s.toInt) = true) := by rintro (a | a); omega; exact q3 a
  unfold t_K t_V
  have q5 : ¬ 6 < e.toNatClampNeg - s.toNatClampNeg := by omega
  have q6 : ¬ t_own tb s.toNatClampNeg e.toNatClampNeg = -1 := by omega
  rw [if_pos h, if_pos h, if_neg q4, if_neg q5, if_neg q3, if_neg q6, if_neg q6]
  exact ⟨by decide +kernel, ho⟩
theorem t_K_num {s e k v pe : Int32} (h : t_d (tb s.toNatClampNeg) = true) (h0 : 0 ≤ s.toInt) (h1 : s.toInt < e.toInt) (hw : ¬ (4 < e.toInt - s.toInt ∨ s.toInt = pe.toInt)) (hv : v.toInt = t_num tb s.toNatClampNeg (k.toNatClampNeg - s.toNatClampNeg)) (hk : k.toInt = e.toInt) : (3 : Int32).toInt = t_K tb s.toNatClampNeg e.toNatClampNeg (decide (pe.toInt = s.toInt)) ∧ v.toInt = t_V tb s.toNatClampNeg e.toNatClampNeg (decide (pe.toInt = s.toInt)) := by
  have e1 := dk_clN s
  have e2 := dk_clN e
  have e3 := dk_clN k
  have q3 : ¬ decide (pe.toInt = s.toInt) = true := by rw [decide_eq_true_eq]; omega
  have q4 : ¬ (4 < e.toNatClampNeg - s.toNatClampNeg ∨ decide (pe.toInt = s.toInt) = true) := by rintro (a | a); omega; exact q3 a
  unfold t_K t_V
  have q5 : ¬ 4 < e.toNatClampNeg - s.toNatClampNeg := by omega
  have hl : ¬ t_l (tb s.toNatClampNeg) = true := by rw [t_ld h]; decide
  rw [if_neg hl, if_neg hl, if_pos h, if_pos h, if_neg q4, if_neg q5, if_neg q3]
  refine ⟨by decide +kernel, ?_⟩
  rw [hv, show k.toNatClampNeg = e.toNatClampNeg by omega]
theorem t_K_sign {s e : Nat} {v : Int32} {ad : Bool} (hv : tb s = v) (h1 : t_l v = false) (h2 : t_d v = false) : (4 : Int32).toInt = t_K tb s e ad ∧ v.toInt = t_V tb s e ad := by
  unfold t_K t_V
  have h3 : ¬ t_l v = true := by rw [h1]; decide
  have h4 : ¬ t_d v = true := by rw [h2]; decide
  rw [hv, if_neg h3, if_neg h3, if_neg h4, if_neg h4]
  exact ⟨by decide +kernel, rfl⟩
/-! the splitter's loop -/
theorem t_ad32 {pe a : Int32} (h : pe.toInt = a.toInt ↔ t_adj tb a.toNatClampNeg = true) : t_adj tb a.toNatClampNeg = decide (pe.toInt = a.toInt) := by
  by_cases q : pe.toInt = a.toInt
  · rw [decide_eq_true q, h.mp q]
  · rw [decide_eq_false q]
    cases z : t_adj tb a.toNatClampNeg with
    | false => rfl
    | true => exact absurd (h.mpr z) q
variable {KD VL KD' VL' : Nat → Int32}
theorem t_inv_z {c a : Int32} (hc : c.toInt = 0) (ha : a.toInt = 0) : t_inv tb n KD VL c.toNatClampNeg a.toNatClampNeg := by
  have e1 := dk_clN c
  have e2 := dk_clN a
  rw [show c.toNatClampNeg = 0 by omega, show a.toNatClampNeg = 0 by omega]
  exact t_inv.zero
theorem t_inv_tok {c c' a e k v pe : Int32} (h : t_inv tb n KD VL c.toNatClampNeg a.toNatClampNeg) (ha : a.toNatClampNeg < n) (hb : t_b (tb a.toNatClampNeg) = false) (had : pe.toInt = a.toInt ↔ t_adj tb a.toNatClampNeg = true) (he : t_en tb n a.toNatClampNeg = e.toNatClampNeg) (hkv : k.toInt = t_K tb a.toNatClampNeg e.toNatClampNeg (decide (pe.toInt = a.toInt)) ∧ v.toInt = t_V tb a.toNatClampNeg e.toNatClampNeg (decide (pe.toInt = a.toInt))) (eK : KD' = upd KD c.toNatClampNeg k) (eV : VL' = upd VL c.toNatClampNeg v) (hc : c'.toInt = c.toInt + 1) (h0 : 0 ≤ c.toInt) : t_inv tb n KD' VL' c'.toNatClampNeg e.toNatClampNeg := by
  have e1 := dk_clN c
  have e2 := dk_clN c'
  rw [show c'.toNatClampNeg = c.toNatClampNeg + 1 by omega]
  rw [← t_ad32 had] at hkv
  exact h.tok ha hb he.symm hkv.1 hkv.2 eK eV
theorem t_inv_blank {c a a' : Int32} (h : t_inv tb n KD VL c.toNatClampNeg a.toNatClampNeg) (hn : n ≤ 1600) (ha : a.toNatClampNeg < n) (hb : t_b (tb a.toNatClampNeg) = true) (hj : a'.toInt = a.toInt + 1) (h0 : 0 ≤ a.toInt) (eK : KD' = KD) (eV : VL' = VL) : t_inv tb n KD' VL' c.toNatClampNeg a'.toNatClampNeg := by
  have e1 := dk_clN a
  have e2 := dk_clN a'
  rw [eK, eV, show a'.toNatClampNeg = a.toNatClampNeg + 1 by omega]
  exact h.blank hn ha hb
theorem t_adj_nx {a a' pe : Int32} (h1 : t_l (tb a.toNatClampNeg) = false) (h2 : t_d (tb a.toNatClampNeg) = false) (hj : a'.toInt = a.toInt + 1) (h0 : 0 ≤ a.toInt) (hp : pe.toInt ≤ a.toInt) : pe.toInt = a'.toInt ↔ t_adj tb a'.toNatClampNeg = true := by
  have e1 := dk_clN a
  have e2 := dk_clN a'
  rw [show a'.toNatClampNeg = a.toNatClampNeg + 1 by omega, t_adj_no h1 h2]
  exact ⟨fun q => absurd q (by omega), fun q => absurd q (by decide)⟩
theorem t_adj_pl {a e pe : Int32} (ha : a.toNatClampNeg < n) (h : t_l (tb a.toNatClampNeg) = true ∨ t_d (tb a.toNatClampNeg) = true) (he : t_en tb n a.toNatClampNeg = e.toNatClampNeg) (hp : pe.toInt = e.toInt) : pe.toInt = e.toInt ↔ t_adj tb e.toNatClampNeg = true := by
  rw [← he]
  exact ⟨fun _ => t_adj_en ha h, fun _ => hp⟩
theorem t_adj_0 {pe a : Int32} (hp : pe.toInt = -1) (ha : a.toInt = 0) : pe.toInt = a.toInt ↔ t_adj tb a.toNatClampNeg = true := by
  have e2 := dk_clN a
  rw [show a.toNatClampNeg = 0 by omega]
  exact ⟨fun q => absurd q (by omega), fun q => by cases q⟩
end TW
