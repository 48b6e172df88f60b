/-! the reference's parser: what waits on its rows (operators by frames), as numbers -/
def dk_rk (t : Int) : Int := if t = 42 then 1 else if t = 41 then 2 else if t = 43 then 3 else if 38 ≤ t ∧ t ≤ 40 then 4 else if t = 31 ∨ t = 32 then 5 else 6
def dk_lv (t : Int) : Int := if t = 42 then 1 else if t = 41 then 2 else if t = 43 then 2 else if 38 ≤ t ∧ t ≤ 40 then 3 else if t = 31 ∨ t = 32 then 4 else 5
def dk_vo (t : Int) : Prop := (31 ≤ t ∧ t ≤ 35) ∨ (38 ≤ t ∧ t ≤ 43)
theorem dk_rl (t : Int) : (t = 42 ∧ dk_rk t = 1 ∧ dk_lv t = 1) ∨ (t = 41 ∧ dk_rk t = 2 ∧ dk_lv t = 2) ∨ (t = 43 ∧ dk_rk t = 3 ∧ dk_lv t = 2) ∨ (38 ≤ t ∧ t ≤ 40 ∧ dk_rk t = 4 ∧ dk_lv t = 3) ∨ ((t = 31 ∨ t = 32) ∧ dk_rk t = 5 ∧ dk_lv t = 4) ∨ (t ≠ 42 ∧ t ≠ 41 ∧ t ≠ 43 ∧ ¬ (38 ≤ t ∧ t ≤ 40) ∧ t ≠ 31 ∧ t ≠ 32 ∧ dk_rk t = 6 ∧ dk_lv t = 5) := by
  unfold dk_rk dk_lv
  by_cases h1 : t = 42
  · simp [h1]
  by_cases h2 : t = 41
  · simp [h2]
  by_cases h3 : t = 43
  · simp [h3]
  by_cases h4 : 38 ≤ t ∧ t ≤ 40
  · simp [h1, h2, h3, h4]
  by_cases h5 : t = 31 ∨ t = 32
  · simp [h1, h2, h3, h4, h5]
  · rw [if_neg h1, if_neg h2, if_neg h3, if_neg h4, if_neg h5, if_neg h1, if_neg h2, if_neg h3, if_neg h4, if_neg h5]
    omega
theorem dk_cnt_congr {f g : Nat → Int32} {k : Int} : ∀ {n : Nat}, (∀ j, j < n → g j = f j) → dk_cnt g k n = dk_cnt f k n
  | 0, _ => rfl
  | n + 1, h => by
    have ih := dk_cnt_congr (f := f) (g := g) (k := k) (n := n) (fun j hj => h j (by omega))
    unfold dk_cnt
    rw [ih, h n (by omega)]
theorem dk_cnt_mono {f : Nat → Int32} {k : Int} {m : Nat} : ∀ {n : Nat}, m ≤ n → dk_cnt f k m ≤ dk_cnt f k n
  | 0, h => by
    have e : m = 0 := by omega
    subst e
    exact Nat.le_refl _
  | n + 1, h => by
    by_cases q : m = n + 1
    · subst q
      exact Nat.le_refl _
    · have ih := dk_cnt_mono (f := f) (k := k) (m := m) (n := n) (by omega)
      have e : dk_cnt f k (n + 1) = dk_cnt f k n + if (f n).toInt = k then 1 else 0 := rfl
      rw [e]
      omega
theorem dk_cnt_s (f : Nat → Int32) (k : Int) (n : Nat) : ((f n).toInt = k ∧ dk_cnt f k (n + 1) = dk_cnt f k n + 1) ∨ ((f n).toInt ≠ k ∧ dk_cnt f k (n + 1) = dk_cnt f k n) := by
  have e : dk_cnt f k (n + 1) = dk_cnt f k n + if (f n).toInt = k then 1 else 0 := rfl
  by_cases h : (f n).toInt = k
  · exact Or.inl ⟨h, by rw [e, if_pos h]⟩
  · exact Or.inr ⟨h, by rw [e, if_neg h, Nat.add_zero]⟩
/-- one frame's operators: their ranks rise (NOT may follow NOT), so they are few -/
def dk_seg (o : Nat → Int32) (lo hi : Nat) (l4 l3 : Prop) (c : Int) : Prop := ∀ i : Nat, lo ≤ i → i < hi → dk_vo (o i).toInt ∧ ((i : Int) + 1 - (dk_cnt o 43 (i + 1) : Int) ≤ c + dk_lv (o i).toInt) ∧ (∀ i' : Nat, i ≤ i' → i' < hi → dk_rk (o i).toInt ≤ dk_rk (o i').toInt) ∧ (l4 → dk_rk (o i).toInt ≠ 4) ∧ (l3 → dk_rk (o i).toInt ≤ 3)
theorem dk_seg.nil {o : Nat → Int32} {lo hi : Nat} {l4 l3 : Prop} {c : Int} (h : hi ≤ lo) : dk_seg o lo hi l4 l3 c := fun i h1 h2 => absurd h2 (by omega)
theorem dk_seg.pop {o : Nat → Int32} {lo hi hi' : Nat} {l4 l3 : Prop} {c : Int} (h : dk_seg o lo hi l4 l3 c) (hh : hi' ≤ hi) : dk_seg o lo hi' l4 l3 c := fun i h1 h2 => ⟨(h i h1 (by omega)).1, (h i h1 (by omega)).2.1, fun i' h3 h4 => (h i h1 (by omega)).2.2.1 i' h3 (by omega), (h i h1 (by omega)).2.2.2⟩
theorem dk_seg.lim {o : Nat → Int32} {lo hi : Nat} {l4 l3 l4' l3' : Prop} {c : Int} (h : dk_seg o lo hi l4 l3 c) (h4 : ∀ i, lo ≤ i → i < hi → l4' → dk_rk (o i).toInt ≠ 4) (h3 : ∀ i, lo ≤ i → i < hi → l3' → dk_rk (o i).toInt ≤ 3) : dk_seg o lo hi l4' l3' c := fun i h1 h2 => ⟨(h i h1 h2).1, (h i h1 h2).2.1, (h i h1 h2).2.2.1, h4 i h1 h2, h3 i h1 h2⟩
theorem dk_seg.congr {o o' : Nat → Int32} {lo hi : Nat} {l4 l3 : Prop} {c : Int} (h : dk_seg o lo hi l4 l3 c) (e : ∀ i, i < hi → o' i = o i) : dk_seg o' lo hi l4 l3 c := by
  intro i h1 h2
  obtain ⟨a, b, d, f⟩ := h i h1 h2
  rw [e i h2, dk_cnt_congr (f := o) (g := o') (n := i + 1) (fun j hj => e j (by omega))]
  exact ⟨a, b, fun i' h3 h4 => by rw [e i' h4]; exact d i' h3 h4, f⟩
theorem dk_seg.push {o o' : Nat → Int32} {t : Int32} {lo hi : Nat} {l4 l3 l4' l3' : Prop} {c : Int} (h : dk_seg o lo hi l4 l3 c) (e : o' = upd o hi t) (hl : lo ≤ hi) (hv : dk_vo t.toInt) (hc : (lo : Int) - (dk_cnt o 43 lo : Int) ≤ c) (ht : hi = lo ∨ dk_rk (o (hi - 1)).toInt < dk_rk t.toInt ∨ (t.toInt = 43 ∧ dk_rk (o (hi - 1)).toInt ≤ 3))
    (h4 : l4' → (∀ i, lo ≤ i → i < hi → dk_rk (o i).toInt ≠ 4) ∧ dk_rk t.toInt ≠ 4) (h3 : l3' → (∀ i, lo ≤ i → i < hi → dk_rk (o i).toInt ≤ 3) ∧ dk_rk t.toInt ≤ 3) : dk_seg o' lo (hi + 1) l4' l3' c := by
  have e0 : o' hi = t := by rw [e]; unfold upd; rw [if_pos rfl]
  have e1 : ∀ i, i < hi → o' i = o i := fun i hi2 => by rw [e]; unfold upd; rw [if_neg (by omega)]
  have rt := dk_rl t.toInt
  intro i h1 h2
  by_cases q : i = hi
  · subst q
    rw [e0]
    have k1 := dk_cnt_s o' 43 i
    rw [e0, dk_cnt_congr (f := o) (g := o') (n := i) e1] at k1
    refine ⟨hv, ?_, fun i' h5 h6 => ?_, fun q4 => (h4 q4).2, fun q3 => (h3 q3).2⟩
    · rcases ht with ht | ht
      · subst ht
        omega
      · by_cases z : i = lo
        · subst z
          omega
        · obtain ⟨-, b, -⟩ := h (i - 1) (by omega) (by omega)
          have r1 := dk_rl (o (i - 1)).toInt
          rw [show i - 1 + 1 = i by omega] at b
          have b2 : ((i - 1 : Nat) : Int) = (i : Int) - 1 := by omega
          omega
    · have z : i' = i := by omega
      subst z
      rw [e0]
      exact Int.le_refl _
  · obtain ⟨a, b, d, f⟩ := h i h1 (by omega)
    rw [e1 i (by omega), dk_cnt_congr (f := o) (g := o') (n := i + 1) (fun j hj => e1 j (by omega))]
    refine ⟨a, b, fun i' h5 h6 => ?_, fun q4 => (h4 q4).1 i h1 (by omega), fun q3 => (h3 q3).1 i h1 (by omega)⟩
    by_cases z : i' = hi
    · subst z
      rw [e0]
      have d1 := d (i' - 1) (by omega) (by omega)
      have r1 := dk_rl (o (i' - 1)).toInt
      rcases ht with ht | ht
      · omega
      · omega
    · rw [e1 i' (by omega)]
      exact d i' h5 (by omega)
/-- a frame that holds a TEST -/
def dk_ts (k : Int) : Prop := k = 1 ∨ k = 5 ∨ k = 6
def dk_hi (bs : Nat → Int32) (d n j : Nat) : Nat := if j + 1 < d then (bs (j + 1)).toInt.toNat else n
/-- how many values wait for a frame's own end -/
def dk_ex1 (k p : Int) : Int := if k = 4 then (if p = 44 then 2 else 1) else if k = 3 ∧ p = 44 then 1 else 0
def dk_ex (fr pr : Nat → Int32) : Nat → Int
  | 0 => 0
  | j + 1 => dk_ex fr pr j + dk_ex1 (fr j).toInt (pr j).toInt
theorem dk_ex1_b (k p : Int) : 0 ≤ dk_ex1 k p ∧ dk_ex1 k p ≤ 2 := by
  unfold dk_ex1
  split
  · split <;> omega
  · split <;> omega
theorem dk_ex_b (fr pr : Nat → Int32) : ∀ d : Nat, 0 ≤ dk_ex fr pr d ∧ dk_ex fr pr d ≤ 2 * (d : Int)
  | 0 => ⟨Int.le_refl _, Int.le_refl _⟩
  | d + 1 => by
    have ih := dk_ex_b fr pr d
    have h := dk_ex1_b (fr d).toInt (pr d).toInt
    have e : dk_ex fr pr (d + 1) = dk_ex fr pr d + dk_ex1 (fr d).toInt (pr d).toInt := rfl
    rw [e]
    omega
theorem dk_ex_congr {fr pr fr' pr' : Nat → Int32} : ∀ {d : Nat}, (∀ j, j < d → fr' j = fr j) → (∀ j, j < d → pr' j = pr j) → dk_ex fr' pr' d = dk_ex fr pr d
  | 0, _, _ => rfl
  | d + 1, h1, h2 => by
    have ih := dk_ex_congr (fr := fr) (pr := pr) (fr' := fr') (pr' := pr') (d := d) (fun j hj => h1 j (by omega)) (fun j hj => h2 j (by omega))
    show dk_ex fr' pr' d + _ = dk_ex fr pr d + _
    rw [ih, h1 d (by omega), h2 d (by omega)]
/-- kinds of frames: 0 a SUM, 1 a TEST, 2 ( SUM, 3 a pair's first, 4 its second, 5 [ TEST, 6 if's TEST -/
def dk_fk (j : Nat) (k p : Int) : Prop := (j = 0 → k ≤ 1) ∧ 0 ≤ k ∧ k ≤ 6 ∧ ((k = 3 ∨ k = 4) → (p = 36 ∨ p = 37 ∨ p = 44)) ∧ (k = 6 → p = 44)
def dk_fs (fr ph bg pr bs o : Nat → Int32) (d n : Nat) (on : Int) : Prop :=
  (1 ≤ d ∧ on = (d : Int) - 1 + (dk_cnt o 43 n : Int) ∧ on ≤ 7) ∧
  ∀ j : Nat, j < d → (0 ≤ (bs j).toInt ∧ (bs j).toInt.toNat ≤ dk_hi bs d n j) ∧ (((bs j).toInt.toNat : Int) - (dk_cnt o 43 (bs j).toInt.toNat : Int) ≤ 5 * (j : Int)) ∧ dk_seg o (bs j).toInt.toNat (dk_hi bs d n j) (dk_ts (fr j).toInt ∧ (ph j).toInt = 0) (dk_ts (fr j).toInt ∧ (bg j).toInt = 1) (5 * (j : Int)) ∧ dk_fk j (fr j).toInt (pr j).toInt ∧ (j + 1 < d → (bg j).toInt = 0)
section DKFS
variable {fr ph bg pr bs o : Nat → Int32} {d n : Nat} {on : Int}
theorem dk_hi_top (h : 1 ≤ d) : dk_hi bs d n (d - 1) = n := by
  unfold dk_hi
  rw [if_neg (by omega)]
/-- the ops below the top: few -/
theorem dk_fs.few (h : dk_fs fr ph bg pr bs o d n on) : (n : Int) - (dk_cnt o 43 n : Int) ≤ 5 * (d : Int) := by
  obtain ⟨⟨h1, h2, h3⟩, h4⟩ := h
  obtain ⟨⟨a1, a2⟩, a3, a4, -⟩ := h4 (d - 1) (by omega)
  rw [dk_hi_top h1] at a2 a4
  by_cases q : n = (bs (d - 1)).toInt.toNat
  · rw [← q] at a3
    omega
  · obtain ⟨-, b, -⟩ := a4 (n - 1) (by omega) (by omega)
    rw [show n - 1 + 1 = n by omega] at b
    have r := dk_rl (o (n - 1)).toInt
    omega
theorem dk_fs.bound (h : dk_fs fr ph bg pr bs o d n on) : d ≤ 8 ∧ n ≤ 47 := by
  have h5 := h.few
  obtain ⟨⟨h1, h2, h3⟩, -⟩ := h
  omega
theorem dk_fs.top (h : dk_fs fr ph bg pr bs o d n on) : 0 ≤ (bs (d - 1)).toInt ∧ (bs (d - 1)).toInt.toNat ≤ n ∧ (((bs (d - 1)).toInt.toNat : Int) - (dk_cnt o 43 (bs (d - 1)).toInt.toNat : Int) ≤ 5 * ((d - 1 : Nat) : Int)) ∧ dk_seg o (bs (d - 1)).toInt.toNat n (dk_ts (fr (d - 1)).toInt ∧ (ph (d - 1)).toInt = 0) (dk_ts (fr (d - 1)).toInt ∧ (bg (d - 1)).toInt = 1) (5 * ((d - 1 : Nat) : Int)) ∧ dk_fk (d - 1) (fr (d - 1)).toInt (pr (d - 1)).toInt := by
  have hd : 1 ≤ d := h.1.1
  obtain ⟨⟨a1, a2⟩, a3, a4, a5, -⟩ := h.2 (d - 1) (by omega)
  rw [dk_hi_top hd] at a2 a4
  exact ⟨a1, a2, a3, a4, a5⟩
/-- all but the top frame's own part is as before -/
theorem dk_fs.mk {fr' ph' bg' pr' o' : Nat → Int32} {n' : Nat} {on' : Int} (h : dk_fs fr ph bg pr bs o d n on) (hfr : ∀ j, j + 1 < d → fr' j = fr j) (hph : ∀ j, j + 1 < d → ph' j = ph j) (hbg : ∀ j, j + 1 < d → bg' j = bg j) (hpr : ∀ j, j + 1 < d → pr' j = pr j) (ho : ∀ i, i < (bs (d - 1)).toInt.toNat → o' i = o i) (hon : on' = (d : Int) - 1 + (dk_cnt o' 43 n' : Int)) (h7 : on' ≤ 7)
    (hn : (bs (d - 1)).toInt.toNat ≤ n') (ht : dk_seg o' (bs (d - 1)).toInt.toNat n' (dk_ts (fr' (d - 1)).toInt ∧ (ph' (d - 1)).toInt = 0) (dk_ts (fr' (d - 1)).toInt ∧ (bg' (d - 1)).toInt = 1) (5 * ((d - 1 : Nat) : Int))) (hk : dk_fk (d - 1) (fr' (d - 1)).toInt (pr' (d - 1)).toInt) : dk_fs fr' ph' bg' pr' bs o' d n' on' := by
  have hd : 1 ≤ d := h.1.1
  have low : ∀ j, j + 1 < d → (bs (j + 1)).toInt.toNat ≤ (bs (d - 1)).toInt.toNat := by
    intro j hj
    have key : ∀ k, j + 1 + k < d → (bs (j + 1)).toInt.toNat ≤ (bs (j + 1 + k)).toInt.toNat := by
      intro k
      induction k with
      | zero => intro _; exact Nat.le_refl _
      | succ k ih =>
        intro hk2
        have h1 := ih (by omega)
        have h2 := (h.2 (j + 1 + k) (by omega)).1.2
        unfold dk_hi at h2
        rw [if_pos (by omega)] at h2
        exact Nat.le_trans h1 h2
    have h3 := key (d - 1 - (j + 1)) (by omega)
    rwa [show j + 1 + (d - 1 - (j + 1)) = d - 1 by omega] at h3
  refine ⟨⟨hd, hon, h7⟩, fun j hj => ?_⟩
  obtain ⟨⟨a1, a2⟩, a3, a4, a5, a6⟩ := h.2 j hj
  by_cases q : j + 1 < d
  · have hle := low j q
    have e1 : dk_hi bs d n' j = dk_hi bs d n j := by
      unfold dk_hi
      rw [if_pos q, if_pos q]
    have e2 : dk_hi bs d n j = (bs (j + 1)).toInt.toNat := by
      unfold dk_hi
      rw [if_pos q]
    rw [e1, hfr j q, hph j q, hbg j q, hpr j q]
    rw [e2] at a2 a4 ⊢
    refine ⟨⟨a1, a2⟩, ?_, a4.congr (fun i hi => ho i (by omega)), a5, a6⟩
    rw [dk_cnt_congr (f := o) (g := o') (n := (bs j).toInt.toNat) (fun i hi => ho i (by omega))]
    exact a3
  · have e : j = d - 1 := by omega
    subst e
    rw [dk_hi_top hd]
    refine ⟨⟨a1, hn⟩, ?_, ht, hk, fun z => absurd z q⟩
    rw [dk_cnt_congr (f := o) (g := o') (n := (bs (d - 1)).toInt.toNat) (fun i hi => ho i hi)]
    exact a3
theorem dk_fs.pop1 {on' : Int} (h : dk_fs fr ph bg pr bs o d n on) (hn : (bs (d - 1)).toInt.toNat < n) (hon : on' = on - (if (o (n - 1)).toInt = 43 then 1 else 0)) : dk_fs fr ph bg pr bs o d (n - 1) on' := by
  obtain ⟨a1, a2, a3, a4, a5⟩ := h.top
  have k := dk_cnt_s o 43 (n - 1)
  rw [show n - 1 + 1 = n by omega] at k
  have h2 := h.1.2.1
  have h3 := h.1.2.2
  refine h.mk (fun _ _ => rfl) (fun _ _ => rfl) (fun _ _ => rfl) (fun _ _ => rfl) (fun _ _ => rfl) ?_ ?_ (by omega) (a4.pop (by omega)) a5
  · rcases k with ⟨k1, k2⟩ | ⟨k1, k2⟩
    · rw [if_pos k1] at hon
      omega
    · rw [if_neg k1] at hon
      omega
  · split at hon <;> omega
theorem dk_fs.push {ph' bg' o' : Nat → Int32} {t : Int32} {on' : Int} (h : dk_fs fr ph bg pr bs o d n on) (e : o' = upd o n t) (hph : ∀ j, j + 1 < d → ph' j = ph j) (hbg : ∀ j, j + 1 < d → bg' j = bg j) (hv : dk_vo t.toInt) (hon : on' = on + (if t.toInt = 43 then 1 else 0)) (h7 : on' ≤ 7) (ht : n = (bs (d - 1)).toInt.toNat ∨ dk_rk (o (n - 1)).toInt < dk_rk t.toInt ∨ (t.toInt = 43 ∧ dk_rk (o (n - 1)).toInt ≤ 3))
    (h4 : dk_ts (fr (d - 1)).toInt ∧ (ph' (d - 1)).toInt = 0 → (∀ i, (bs (d - 1)).toInt.toNat ≤ i → i < n → dk_rk (o i).toInt ≠ 4) ∧ dk_rk t.toInt ≠ 4) (h3 : dk_ts (fr (d - 1)).toInt ∧ (bg' (d - 1)).toInt = 1 → (∀ i, (bs (d - 1)).toInt.toNat ≤ i → i < n → dk_rk (o i).toInt ≤ 3) ∧ dk_rk t.toInt ≤ 3) : dk_fs fr ph' bg' pr bs o' d (n + 1) on' := by
  obtain ⟨a1, a2, a3, a4, a5⟩ := h.top
  have e1 : ∀ i, i < n → o' i = o i := fun i hi2 => by rw [e]; unfold upd; rw [if_neg (by omega)]
  have e0 : o' n = t := by rw [e]; unfold upd; rw [if_pos rfl]
  have k := dk_cnt_s o' 43 n
  rw [e0, dk_cnt_congr (f := o) (g := o') (n := n) e1] at k
  have h2 := h.1.2.1
  refine h.mk (fun _ _ => rfl) hph hbg (fun _ _ => rfl) (fun i hi => e1 i (by omega)) ?_ h7 (by omega) (a4.push e a2 hv a3 ht h4 h3) a5
  rcases k with ⟨k1, k2⟩ | ⟨k1, k2⟩
  · rw [if_pos k1] at hon
    omega
  · rw [if_neg k1] at hon
    omega
theorem dk_fs.flag {fr' ph' bg' pr' : Nat → Int32} (h : dk_fs fr ph bg pr bs o d n on) (hfr : ∀ j, j + 1 < d → fr' j = fr j) (hph : ∀ j, j + 1 < d → ph' j = ph j) (hbg : ∀ j, j + 1 < d → bg' j = bg j) (hpr : ∀ j, j + 1 < d → pr' j = pr j) (h4 : ∀ i, (bs (d - 1)).toInt.toNat ≤ i → i < n → dk_ts (fr' (d - 1)).toInt ∧ (ph' (d - 1)).toInt = 0 → dk_rk (o i).toInt ≠ 4) (h3 : ∀ i, (bs (d - 1)).toInt.toNat ≤ i → i < n → dk_ts (fr' (d - 1)).toInt ∧ (bg' (d - 1)).toInt = 1 → dk_rk (o i).toInt ≤ 3) (hk : dk_fk (d - 1) (fr' (d - 1)).toInt (pr' (d - 1)).toInt) : dk_fs fr' ph' bg' pr' bs o d n on := by
  obtain ⟨a1, a2, a3, a4, a5⟩ := h.top
  exact h.mk hfr hph hbg hpr (fun _ _ => rfl) h.1.2.1 h.1.2.2 a2 (a4.lim h4 h3) hk
theorem dk_fs.opens {fr' ph' bg' pr' bs' : Nat → Int32} (h : dk_fs fr ph bg pr bs o d n on) (hb0 : (bg (d - 1)).toInt = 0) (hfr : ∀ j, j < d → fr' j = fr j) (hph : ∀ j, j < d → ph' j = ph j) (hbg : ∀ j, j < d → bg' j = bg j) (hpr : ∀ j, j < d → pr' j = pr j) (hbs : ∀ j, j < d → bs' j = bs j) (hb : (bs' d).toInt = (n : Int)) (hk : dk_fk d (fr' d).toInt (pr' d).toInt) (h7 : on + 1 ≤ 7) : dk_fs fr' ph' bg' pr' bs' o (d + 1) n (on + 1) := by
  have hf := h.few
  obtain ⟨⟨h1, h2, h3⟩, h4⟩ := h
  refine ⟨⟨by omega, by omega, h7⟩, fun j hj => ?_⟩
  by_cases q : j < d
  · obtain ⟨⟨a1, a2⟩, a3, a4, a5, a6⟩ := h4 j q
    have e : dk_hi bs' (d + 1) n j = dk_hi bs d n j := by
      unfold dk_hi
      rw [if_pos (by omega)]
      by_cases z : j + 1 < d
      · rw [if_pos z, hbs (j + 1) z]
      · rw [if_neg z, show j + 1 = d by omega]
        omega
    rw [e, hfr j q, hph j q, hbg j q, hpr j q, hbs j q]
    refine ⟨⟨a1, a2⟩, a3, a4, a5, fun _ => ?_⟩
    by_cases z : j + 1 < d
    · exact a6 z
    · rw [show j = d - 1 by omega]
      exact hb0
  · have e : j = d := by omega
    subst e
    have eh : dk_hi bs' (j + 1) n j = n := by
      unfold dk_hi
      rw [if_neg (by omega)]
    have en : (bs' j).toInt.toNat = n := by omega
    rw [eh, en]
    exact ⟨⟨by omega, Nat.le_refl _⟩, hf, dk_seg.nil (Nat.le_refl _), hk, fun z => absurd z (by omega)⟩
theorem dk_fs.close {ph' : Nat → Int32} (h : dk_fs fr ph bg pr bs o d n on) (hd : 2 ≤ d) (hn : n = (bs (d - 1)).toInt.toNat) (hph : ∀ j, j + 2 < d → ph' j = ph j) (h2 : ph' (d - 2) = ph (d - 2) ∨ (ph' (d - 2)).toInt ≠ 0) : dk_fs fr ph' bg pr bs o (d - 1) n (on - 1) := by
  obtain ⟨⟨h1, h2', h3⟩, h4⟩ := h
  refine ⟨⟨by omega, by omega, by omega⟩, fun j hj => ?_⟩
  obtain ⟨⟨a1, a2⟩, a3, a4, a5, a6⟩ := h4 j (by omega)
  have e : dk_hi bs (d - 1) n j = dk_hi bs d n j := by
    unfold dk_hi
    rw [if_pos (show j + 1 < d by omega)]
    by_cases z : j + 1 < d - 1
    · rw [if_pos z]
    · rw [if_neg z, hn, show j + 1 = d - 1 by omega]
  rw [e]
  refine ⟨⟨a1, a2⟩, a3, ?_, a5, fun z => a6 (by omega)⟩
  by_cases z : j + 2 < d
  · rw [hph j z]
    exact a4
  · have ej : j = d - 2 := by omega
    subst ej
    rcases h2 with q | q
    · rw [q]
      exact a4
    · exact a4.lim (fun i i1 i2 w => absurd w.2 q) (fun i i1 i2 w => (a4 i i1 i2).2.2.2.2 w)
/-- the first frame -/
theorem dk_fs.first {k : Int} (hn : n = 0) (h0 : (bs 0).toInt = 0) (hk : (fr 0).toInt = k) (hk2 : k = 0 ∨ k = 1) : dk_fs fr ph bg pr bs o 1 n 0 := by
  subst hn
  refine ⟨⟨Nat.le_refl _, rfl, by omega⟩, fun j hj => ?_⟩
  have e : j = 0 := by omega
  subst e
  have eh : dk_hi bs 1 0 0 = 0 := rfl
  rw [eh, h0]
  have c0 : dk_cnt o 43 (0 : Int).toNat = 0 := rfl
  refine ⟨⟨by omega, by decide⟩, by rw [c0]; decide, dk_seg.nil (Nat.zero_le _), ?_, fun z => absurd z (by omega)⟩
  unfold dk_fk
  omega
end DKFS
