/-! the widening search, for both sides; far c = -1: not found yet -/
def b_nb (c d : Int) : Prop := d = c - 8 ∨ d = c - 1 ∨ d = c + 1 ∨ d = c + 8
theorem b_nb.sym {c d : Int} (h : b_nb c d) : b_nb d c := by
  unfold b_nb at h ⊢
  omega
/-- found in n steps at most; op: open; ps: a step leads out of it -/
def b_D (sh : Int) (op ps : Int → Prop) : Nat → Int → Prop
  | 0, c => c = sh
  | n + 1, c => b_D sh op ps n c ∨ (op c ∧ ∃ d, b_nb d c ∧ ps d ∧ b_D sh op ps n d)
def b_di (sh : Int) (op ps : Int → Prop) (c : Int) (n : Nat) : Prop := b_D sh op ps n c ∧ ∀ m, m < n → ¬ b_D sh op ps m c
def b_cnt (far : Int → Int) : Nat → Nat
  | 0 => 0
  | n + 1 => b_cnt far n + (if far (n : Int) = -1 then 0 else 1)
theorem b_cnt_le {far : Int → Int} : ∀ n : Nat, b_cnt far n ≤ n
  | 0 => Nat.le_refl _
  | n + 1 => by
    have h := b_cnt_le (far := far) n
    unfold b_cnt
    split <;> omega
theorem b_cnt_same {far far' : Int → Int} : ∀ n : Nat, (∀ c : Int, 0 ≤ c → c < n → far' c = far c) → b_cnt far' n = b_cnt far n
  | 0, _ => rfl
  | n + 1, h => by
    have h1 := b_cnt_same (far := far) (far' := far') n (fun c a b => h c a (by omega))
    unfold b_cnt
    rw [h1, h (n : Int) (by omega) (by omega)]
theorem b_cnt_hit {far far' : Int → Int} {d : Int} (h0 : 0 ≤ d) (hm : far d = -1) (hd : far' d ≠ -1) (hs : ∀ c, c ≠ d → far' c = far c) : ∀ n : Nat, d < n → b_cnt far' n = b_cnt far n + 1
  | 0, h => by omega
  | n + 1, h => by
    by_cases q : d = (n : Int)
    · have h1 := b_cnt_same (far := far) (far' := far') n (fun c a b => hs c (by omega))
      unfold b_cnt
      rw [h1, ← q, if_pos hm, if_neg hd]
    · have h1 := b_cnt_hit h0 hm hd hs n (by omega)
      unfold b_cnt
      rw [h1, hs (n : Int) (fun z => q z.symm)]
      omega
/-- where the search stands: q: the row of those found, k looked at, w found; of the k-th the neighbours in N -/
def b_I (sh : Int) (op ps : Int → Prop) (far : Int → Int) (q : Nat → Int) (k w : Nat) (N : Int → Prop) : Prop :=
  (0 < w ∧ k ≤ w ∧ q 0 = sh ∧ b_cnt far 64 = w) ∧
  (∀ c, far c ≠ -1 → ∃ i, i < w ∧ q i = c) ∧
  (∀ i, i < w → (0 ≤ q i ∧ q i < 64 ∧ op (q i)) ∧ ∃ n : Nat, far (q i) = n ∧ n ≤ i ∧ b_di sh op ps (q i) n) ∧
  (∀ i j, i ≤ j → j < w → far (q i) ≤ far (q j)) ∧
  (∀ j, j < w → k < w → far (q j) ≤ far (q k) + 1) ∧
  (∀ i, i < k → ps (q i) → ∀ d, b_nb (q i) d → op d → far d ≠ -1) ∧
  (k < w → ps (q k) → ∀ d, N d → b_nb (q k) d → op d → far d ≠ -1)
section BI
variable {sh : Int} {op ps : Int → Prop} {far far' : Int → Int} {q q' : Nat → Int} {k w : Nat} {N N' : Int → Prop} {c d : Int}
theorem b_I.w64 (h : b_I sh op ps far q k w N) : w ≤ 64 := by
  have h1 := b_cnt_le (far := far) 64
  have h2 := h.1.2.2.2
  omega
theorem b_I.sh0 (h : b_I sh op ps far q k w N) : far sh = 0 := by
  obtain ⟨⟨a, b, e, f⟩, h2, h3, -⟩ := h
  obtain ⟨-, n, h4, h5, -⟩ := h3 0 a
  rw [e] at h4
  omega
theorem b_I.below (h : b_I sh op ps far q k w N) (hk : k < w) : ∀ (n : Nat) (c : Int), (n : Int) < far (q k) → b_D sh op ps n c → ∃ i, i < k ∧ q i = c := by
  have h0 := h.sh0
  obtain ⟨⟨a, b, e, -⟩, h2, h3, h4, h5, h6, h7⟩ := h
  intro n
  induction n with
  | zero =>
    intro c hn hD
    have hD : c = sh := hD
    refine ⟨0, ?_, by rw [e, hD]⟩
    cases k with
    | zero =>
      rw [e, h0] at hn
      exact absurd hn (by decide)
    | succ k => omega
  | succ n ih =>
    intro c hn hD
    rcases hD with hD | ⟨ho, d, hb, hp, hD⟩
    · exact ih c (by omega) hD
    · obtain ⟨i, hi, ei⟩ := ih d (by omega) hD
      rw [← ei] at hb hp
      obtain ⟨j, hj, ej⟩ := h2 c (h6 i hi hp c hb ho)
      by_cases z : j < k
      · exact ⟨j, z, ej⟩
      · exfalso
        obtain ⟨-, m, em, -, hm⟩ := h3 j hj
        have z1 := h4 k j (by omega) hj
        have z2 : m ≤ n + 1 := by
          apply Classical.byContradiction
          intro z3
          refine hm.2 (n + 1) (by omega) ?_
          rw [ej]
          exact Or.inr ⟨ho, d, by rw [← ei]; exact hb, by rw [← ei]; exact hp, hD⟩
        omega
theorem b_I.init (hq : q 0 = sh) (h0 : far sh = 0) (hn : ∀ c, c ≠ sh → far c = -1) (hs : 0 ≤ sh ∧ sh < 64) (ho : op sh) : b_I sh op ps far q 0 1 (fun _ => False) := by
  have hone : ∀ i, i < 1 → i = 0 := fun i hi => by omega
  refine ⟨⟨by decide, by decide, hq, ?_⟩, fun c hc => ⟨0, by decide, ?_⟩, fun i hi => ?_, fun i j hij hj => ?_, fun j hj _ => ?_, fun i hi => absurd hi (Nat.not_lt_zero i), fun _ _ d hd => absurd hd id⟩
  · have h1 : ∀ n : Nat, b_cnt (fun _ => -1) n = 0 := fun n => by
      induction n with
      | zero => rfl
      | succ n ih => unfold b_cnt; rw [ih, if_pos rfl]
    have h2 := b_cnt_hit (far := fun _ => -1) (far' := far) hs.1 rfl (by rw [h0]; decide) (fun c hc => hn c hc) 64 hs.2
    rw [h2, h1]
  · apply Classical.byContradiction
    intro z
    exact hc (hn c (fun z2 => z (by rw [hq, z2])))
  · have := hone i hi
    subst this
    rw [hq]
    exact ⟨⟨hs.1, hs.2, ho⟩, 0, h0, Nat.le_refl _, rfl, fun m hm => absurd hm (Nat.not_lt_zero m)⟩
  · rw [hone j hj, hone i (by omega)]
    exact Int.le_refl _
  · rw [hone j hj]
    omega
theorem b_I.push (h : b_I sh op ps far q k w N) (hk : k < w) (hp : ps (q k)) (hb : b_nb (q k) d) (ho : op d) (hd : far d = -1) (hr : 0 ≤ d ∧ d < 64) (f1 : far' d = far (q k) + 1) (f2 : ∀ c, c ≠ d → far' c = far c) (q1 : q' w = d) (q2 : ∀ i, i < w → q' i = q i) (hN : ∀ c, N' c → N c ∨ c = d) : b_I sh op ps far' q' k (w + 1) N' := by
  have h0 := h.sh0
  have hbel := h.below hk
  obtain ⟨⟨a, b, e, g⟩, h2, h3, h4, h5, h6, h7⟩ := h
  obtain ⟨⟨r0, r1, rk⟩, n, en, ni, hn⟩ := h3 k hk
  have qd : ∀ i, i < w → q i ≠ d := fun i hi z => by
    obtain ⟨-, m, em, -⟩ := h3 i hi
    rw [z, hd] at em
    omega
  have fq : ∀ i, i < w → far' (q' i) = far (q i) := fun i hi => by rw [q2 i hi, f2 _ (qd i hi)]
  have fd : far' d ≠ -1 := by omega
  have fm : ∀ c, far c ≠ -1 → far' c ≠ -1 := fun c hc => by
    by_cases z : c = d
    · rw [z]; exact fd
    · rw [f2 c z]; exact hc
  refine ⟨⟨by omega, by omega, by rw [q2 0 a]; exact e, ?_⟩, fun c hc => ?_, fun i hi => ?_, fun i j hij hj => ?_, fun j hj _ => ?_, fun i hi hpi x hx hox => ?_, fun _ _ x hx hbx hox => ?_⟩
  · rw [b_cnt_hit hr.1 hd fd f2 64 hr.2, g]
  · by_cases z : c = d
    · exact ⟨w, by omega, by rw [q1, z]⟩
    · rw [f2 c z] at hc
      obtain ⟨i, hi, ei⟩ := h2 c hc
      exact ⟨i, by omega, by rw [q2 i hi]; exact ei⟩
  · by_cases z : i < w
    · rw [fq i z, q2 i z]
      exact h3 i z
    · have z1 : i = w := by omega
      subst z1
      rw [q1, f1]
      refine ⟨⟨hr.1, hr.2, ho⟩, n + 1, by omega, by omega, Or.inr ⟨ho, q k, hb, hp, hn.1⟩, ?_⟩
      intro m
      induction m with
      | zero =>
        intro _ z
        have z : d = sh := z
        rw [z, h0] at hd
        exact absurd hd (by decide)
      | succ m ih =>
        intro hm z
        rcases z with z | ⟨-, x, hbx, hpx, hx⟩
        · exact ih (by omega) z
        · obtain ⟨i, hi, ei⟩ := hbel m x (by omega) hx
          rw [← ei] at hbx hpx
          exact h6 i hi hpx d hbx ho hd
  · by_cases z : j < w
    · rw [fq j z, fq i (by omega)]
      exact h4 i j hij z
    · have z1 : j = w := by omega
      subst z1
      rw [q1, f1]
      by_cases y : i < j
      · rw [fq i y]
        exact h5 i y hk
      · have y1 : i = j := by omega
        subst y1
        rw [q1, f1]
        exact Int.le_refl _
  · rw [fq k hk]
    by_cases z : j < w
    · rw [fq j z]
      exact h5 j z hk
    · have z1 : j = w := by omega
      subst z1
      rw [q1, f1]
      exact Int.le_refl _
  · rw [q2 i (by omega)] at hpi hx
    exact fm x (h6 i hi hpi x hx hox)
  · rw [q2 k hk] at hbx
    by_cases z : x = d
    · rw [z]; exact fd
    · rcases hN x hx with z1 | z1
      · exact fm x (h7 hk hp x z1 hbx hox)
      · exact absurd z1 z
theorem b_I.more (h : b_I sh op ps far q k w N) (hN : ∀ c, N' c → N c ∨ (op c → b_nb (q k) c → far c ≠ -1)) : b_I sh op ps far q k w N' := by
  obtain ⟨h1, h2, h3, h4, h5, h6, h7⟩ := h
  refine ⟨h1, h2, h3, h4, h5, h6, fun a b d hd hb ho => ?_⟩
  rcases hN d hd with z | z
  · exact h7 a b d z hb ho
  · exact z ho hb
theorem b_I.next (h : b_I sh op ps far q k w N) (hk : k < w) (hN : ps (q k) → ∀ d, b_nb (q k) d → N d) : b_I sh op ps far q (k + 1) w (fun _ => False) := by
  obtain ⟨⟨a, b, e, g⟩, h2, h3, h4, h5, h6, h7⟩ := h
  refine ⟨⟨a, by omega, e, g⟩, h2, h3, h4, fun j hj h1 => ?_, fun i hi hp d hd ho => ?_, fun _ _ d hd => absurd hd id⟩
  · have z1 := h5 j hj hk
    have z2 := h4 k (k + 1) (by omega) h1
    omega
  · by_cases z : i < k
    · exact h6 i z hp d hd ho
    · have z1 : i = k := by omega
      subst z1
      exact h7 hk hp d (hN hp d hd) hd ho
theorem b_I.done (h : b_I sh op ps far q k w N) (hk : w ≤ k) : ∀ (n : Nat) (c : Int), b_D sh op ps n c → far c ≠ -1 := by
  have h0 := h.sh0
  obtain ⟨⟨a, b, e, g⟩, h2, h3, h4, h5, h6, h7⟩ := h
  intro n
  induction n with
  | zero =>
    intro c hc
    have hc : c = sh := hc
    rw [hc, h0]
    decide
  | succ n ih =>
    intro c hc
    rcases hc with hc | ⟨ho, d, hb, hp, hD⟩
    · exact ih c hc
    · obtain ⟨i, hi, ei⟩ := h2 d (ih d hD)
      rw [← ei] at hb hp
      exact h6 i (by omega) hp c hb ho
end BI
/-- how far: the number of steps, -1 where no way leads -/
def b_far (sh : Int) (op ps : Int → Prop) (far : Int → Int) : Prop := ∀ c, (far c = -1 ∧ ∀ n, ¬ b_D sh op ps n c) ∨ ∃ n : Nat, far c = n ∧ n < 64 ∧ b_di sh op ps c n
theorem b_I.far {sh : Int} {op ps : Int → Prop} {far : Int → Int} {q : Nat → Int} {k w : Nat} {N : Int → Prop} (h : b_I sh op ps far q k w N) (hk : w ≤ k) : b_far sh op ps far := by
  intro c
  by_cases z : far c = -1
  · exact Or.inl ⟨z, fun n hn => h.done hk n c hn z⟩
  · obtain ⟨i, hi, ei⟩ := h.2.1 c z
    obtain ⟨-, n, en, hn, hd⟩ := h.2.2.1 i hi
    have := h.w64
    rw [ei] at en hd
    exact Or.inr ⟨n, en, by omega, hd⟩
theorem b_far.uniq {sh : Int} {op ps : Int → Prop} {f g : Int → Int} (hf : b_far sh op ps f) (hg : b_far sh op ps g) (c : Int) : f c = g c := by
  rcases hf c with ⟨e1, h1⟩ | ⟨n, e1, -, h1⟩
  · rcases hg c with ⟨e2, h2⟩ | ⟨m, e2, -, h2⟩
    · rw [e1, e2]
    · exact absurd h2.1 (h1 m)
  · rcases hg c with ⟨e2, h2⟩ | ⟨m, e2, -, h2⟩
    · exact absurd h1.1 (h2 n)
    · have a : ¬ n < m := fun z => h2.2 n z h1.1
      have b : ¬ m < n := fun z => h1.2 m z h2.1
      omega
theorem b_D.congr {sh : Int} {op ps op' ps' : Int → Prop} (ho : ∀ c, op c ↔ op' c) (hp : ∀ c, ps c ↔ ps' c) : ∀ (n : Nat) (c : Int), b_D sh op ps n c ↔ b_D sh op' ps' n c
  | 0, _ => Iff.rfl
  | n + 1, c => by
    have ih := b_D.congr (sh := sh) ho hp n
    show (b_D sh op ps n c ∨ (op c ∧ ∃ d, b_nb d c ∧ ps d ∧ b_D sh op ps n d)) ↔ (b_D sh op' ps' n c ∨ (op' c ∧ ∃ d, b_nb d c ∧ ps' d ∧ b_D sh op' ps' n d))
    constructor
    · rintro (h | ⟨a, d, b, e, f⟩)
      · exact Or.inl ((ih c).mp h)
      · exact Or.inr ⟨(ho c).mp a, d, b, (hp d).mp e, (ih d).mp f⟩
    · rintro (h | ⟨a, d, b, e, f⟩)
      · exact Or.inl ((ih c).mpr h)
      · exact Or.inr ⟨(ho c).mpr a, d, b, (hp d).mpr e, (ih d).mpr f⟩
