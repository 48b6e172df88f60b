/-! the class spreads light: what lies beside it -/
def cx_bm (S : dg_S) (x : Int) : Int := (S.2.1 218 x.toNat).toInt
def cx_ex (S : dg_S) (i : Nat) : Int := (S.2.1 219 i).toInt
/-- of those found (their numbers and cells: D), which are lit -/
def cx_lq (G A : aR) (r : Int) (far : Int → Int) (c : Int) : Prop := s_ps G A c ∧ far c ≤ r
/-- beams and exposed cells as far as they come from D -/
def cx_L (G A : aR) (r : Int) (far : Int → Int) (D : Int → Int → Prop) (S : dg_S) (ec : Nat) : Prop :=
  (∀ x : Int, 0 ≤ x → x < 72 → (cx_bm S x = 1000 ∧ ∀ c, D c (x - 8) → ¬ cx_lq G A r far c) ∨ ∃ c, D c (x - 8) ∧ cx_lq G A r far c ∧ cx_bm S x = far c ∧ far c < 1000 ∧ ∀ c', D c' (x - 8) → cx_lq G A r far c' → far c ≤ far c') ∧
  (∀ i, i < ec → (0 ≤ cx_ex S i ∧ cx_ex S i < 72) ∧ s_so G A (cx_ex S i - 8) ∧ cx_bm S (cx_ex S i) ≠ 1000) ∧
  (∀ i j, i < ec → j < ec → cx_ex S i = cx_ex S j → i = j) ∧
  (∀ x : Int, 0 ≤ x → x < 72 → s_so G A (x - 8) → cx_bm S x ≠ 1000 → ∃ i, i < ec ∧ cx_ex S i = x)
/-- rows 218, 219 and the count of the exposed alone -/
def k_sh (S S1 : dg_S) : Prop := kp (fun a b => a = 214 ∧ b = 4) (fun a => a = 218 ∨ a = 219) S S1
theorem k_sh.ce {G A : aR} {S S1 : dg_S} {p : Nat} (h : k_sh S S1) (hp : pX p) (c : cx_ce G A S p) : cx_ce G A S1 p := c.keep (h.2 (p + 1) (by have := pX_sep hp; omega)).1
/-- as many numbers below n as there are unlike ones -/
theorem cx_pig : ∀ (n m : Nat) (f : Nat → Int), (∀ i, i < m → 0 ≤ f i ∧ f i < n) → (∀ i j, i < m → j < m → f i = f j → i = j) → m ≤ n
  | 0, 0, _, _, _ => Nat.le_refl _
  | 0, m + 1, f, h, _ => by
    have := h 0 (by omega)
    omega
  | n + 1, m, f, h, hi => by
    by_cases z : ∃ k, k < m ∧ f k = (n : Int)
    · obtain ⟨k, hk, ek⟩ := z
      cases m with
      | zero => omega
      | succ m =>
        have h1 := cx_pig n m (fun i => if i < k then f i else f (i + 1)) (fun i hm => by
          show 0 ≤ (if i < k then f i else f (i + 1)) ∧ (if i < k then f i else f (i + 1)) < (n : Int)
          split
          · rename_i q
            have h2 := h i (by omega)
            have h3 : f i ≠ (n : Int) := fun z => by
              have := hi i k (by omega) hk (by rw [z, ek])
              omega
            omega
          · rename_i q
            have h2 := h (i + 1) (by omega)
            have h3 : f (i + 1) ≠ (n : Int) := fun z => by
              have := hi (i + 1) k (by omega) hk (by rw [z, ek])
              omega
            omega) (fun i j hm hj e => by
          have e : (if i < k then f i else f (i + 1)) = (if j < k then f j else f (j + 1)) := e
          split at e
          · split at e
            · exact hi i j (by omega) (by omega) e
            · have := hi i (j + 1) (by omega) (by omega) e
              omega
          · split at e
            · have := hi (i + 1) j (by omega) (by omega) e
              omega
            · have := hi (i + 1) (j + 1) (by omega) (by omega) e
              omega)
        omega
    · have h1 := cx_pig n m f (fun i hm => by
        have h2 := h i hm
        have h3 : f i ≠ (n : Int) := fun q => z ⟨i, hm, q⟩
        omega) hi
      omega
theorem cx_L.ec {G A : aR} {r : Int} {far : Int → Int} {D : Int → Int → Prop} {S : dg_S} {ec : Nat} (h : cx_L G A r far D S ec) : ec ≤ 72 := cx_pig 72 ec (cx_ex S) (fun i hi => (h.2.1 i hi).1) h.2.2.1
section XG
variable {G A : aR} {S0 S S1 : dg_S} {p o : Nat} {a fx : Int32} {r cc : Int} {far : Int → Int} {D : Int → Int → Prop} {ec : Nat}
/-- one neighbour of a lit cell -/
theorem cx_sh1 (hp : pX p) (hS : zR o S0 214 7 = p) (hc : cx_ce G A S p) (h : cx_L G A r far D S ec) (ha : 8 ≤ a.toInt ∧ a.toInt ≤ 63) (hcc : cc = a.toInt - 8) (hl : cx_lq G A r far cc) (hfx : fx.toInt = far cc) (hf0 : 0 ≤ far cc ∧ far cc < 1000) (hm : ∀ c d, D c d → cx_lq G A r far c → far c ≤ far cc) {i sd m : Int32} {b : Int} (hi : ¬ (4 : Int32) ≤ i) (hs : zV (dk_sides i.toNatClampNeg) = sd) (hb : sd.toInt = b) (hn : -8 ≤ b ∧ b ≤ 8) (hmm : m.toInt = ec) :
    ∃ (m1 : Int32) (S1 : dg_S) (e1 : Nat), F_w_shineFrom_B1 a fx o S0 (i, m, S) = .inl (i + 1, m1, S1) ∧ m1.toInt = e1 ∧ cx_L G A r far (fun c d => D c d ∨ (c = cc ∧ d = cc + b)) S1 e1 ∧ k_sh S S1 ∧ (m1 = zI S1 214 4 ∨ (m1 = m ∧ zI S1 214 4 = zI S 214 4)) := by
  have e72 := h.ec
  have ea : (a + sd).toInt = a.toInt + b := dk_addT rfl hb (by omega) (by omega)
  have e0 : 0 ≤ (a + sd).toInt ∧ (a + sd).toInt < 72 := by omega
  obtain ⟨y, hy⟩ : ∃ y, y = (a + sd).toInt := ⟨_, rfl⟩
  have hyc : y - 8 = cc + b := by omega
  have ey : (a + sd).toNatClampNeg = y.toNat := by rw [hy]; rfl
  obtain ⟨h1, h2, h3, h4⟩ := h
  by_cases q1 : S.2.1 218 (a + sd).toNatClampNeg = (1000 : Int32)
  · have b1 : cx_bm S y = 1000 := by
      unfold cx_bm
      rw [← ey, q1]
      decide +kernel
    obtain ⟨S2, hS2⟩ : ∃ S2, S2 = dg_uf S 218 (upd (S.2.1 218) (a + sd).toNatClampNeg fx) := ⟨_, rfl⟩
    have r218 : ∀ x, cx_bm S2 x = if x.toNat = y.toNat then far cc else cx_bm S x := fun x => by
      unfold cx_bm
      rw [hS2, w_f, if_pos rfl, w_u, ey]
      split
      · exact hfx
      · rfl
    have nob : ∀ c, D c (y - 8) → ¬ cx_lq G A r far c := by
      rcases h1 y (by omega) (by omega) with z | ⟨c, _, _, z, z2, _⟩
      · exact z.2
      · omega
    have L1 : ∀ x : Int, 0 ≤ x → x < 72 → (cx_bm S2 x = 1000 ∧ ∀ c, (D c (x - 8) ∨ (c = cc ∧ x - 8 = cc + b)) → ¬ cx_lq G A r far c) ∨ ∃ c, (D c (x - 8) ∨ (c = cc ∧ x - 8 = cc + b)) ∧ cx_lq G A r far c ∧ cx_bm S2 x = far c ∧ far c < 1000 ∧ ∀ c', (D c' (x - 8) ∨ (c' = cc ∧ x - 8 = cc + b)) → cx_lq G A r far c' → far c ≤ far c' := by
      intro x x0 x1
      rw [r218]
      by_cases z : x = y
      · subst z
        rw [if_pos rfl]
        refine Or.inr ⟨cc, Or.inr ⟨rfl, hyc⟩, hl, rfl, hf0.2, fun c' hc' hl' => ?_⟩
        rcases hc' with z1 | z1
        · exact absurd hl' (nob c' z1)
        · rw [z1.1]
          exact Int.le_refl _
      · rw [if_neg (by omega)]
        rcases h1 x x0 x1 with ⟨z1, z2⟩ | ⟨c, d1, d2, d3, d4, d5⟩
        · refine Or.inl ⟨z1, fun c hc1 => ?_⟩
          rcases hc1 with z3 | z3
          · exact z2 c z3
          · omega
        · refine Or.inr ⟨c, Or.inl d1, d2, d3, d4, fun c' hc' hl' => ?_⟩
          rcases hc' with z3 | z3
          · exact d5 c' z3 hl'
          · omega
    have hc2 : cx_ce G A S2 p := hc.keep (by rw [hS2, w_f, if_neg (by have := pX_sep hp; omega)])
    have hso := cx_isSolid (o := o) (a := a + sd) hc2 e0.1 e0.2
    by_cases q2 : F_p_isSolid o S2 p (a + sd) = (0 : Int32)
    · have ns : ¬ s_so G A (y - 8) := fun z => by
        rw [q2, ← hy, s_b1 z] at hso
        exact absurd hso (by decide +kernel)
      refine ⟨m, S2, ec, F_w_shineFrom_p2 hi hs.symm rfl rfl q1 hS2 hS.symm rfl q2 rfl, hmm, ⟨L1, fun i hi => ?_, fun i j hi hj e => ?_, fun x x0 x1 xs xb => ?_⟩, by rw [hS2]; exact kp.uf kp.rf (Or.inl rfl), Or.inr ⟨rfl, by rw [hS2, w_If]⟩⟩
      · have e219 : cx_ex S2 i = cx_ex S i := by
          unfold cx_ex
          rw [hS2, w_f, if_neg (by decide)]
        rw [e219, r218]
        obtain ⟨a1, a2, a3⟩ := h2 i hi
        refine ⟨a1, a2, ?_⟩
        rw [if_neg (fun z => ns (by rw [show y = cx_ex S i by omega]; exact a2))]
        exact a3
      · refine h3 i j hi hj ?_
        unfold cx_ex at e ⊢
        rw [hS2, w_f, if_neg (by decide)] at e
        exact e
      · rw [r218, if_neg (fun z => ns (by rw [show y = x by omega]; exact xs))] at xb
        obtain ⟨i, hi, ei⟩ := h4 x x0 x1 xs xb
        refine ⟨i, hi, ?_⟩
        unfold cx_ex at ei ⊢
        rw [hS2, w_f, if_neg (by decide)]
        exact ei
    · have ys : s_so G A (y - 8) := by
        apply Classical.byContradiction
        intro z
        rw [← hy, s_b0 z] at hso
        exact q2 (dk_eqp (k := 0) (by decide +kernel) hso)
      obtain ⟨S3, hS3⟩ : ∃ S3, S3 = dg_uf S2 219 (upd (S2.2.1 219) m.toNatClampNeg (a + sd)) := ⟨_, rfl⟩
      obtain ⟨S4, hS4⟩ : ∃ S4, S4 = dg_uF S3 214 4 (.int (m + (1 : Int32))) := ⟨_, rfl⟩
      have em : (m + (1 : Int32)).toInt = (ec : Int) + 1 := by rw [← hmm]; exact dk_addT rfl (by decide +kernel) (by omega) (by omega)
      have emn : m.toNatClampNeg = ec := by rw [dk_clN]; omega
      have r219 : S2.2.1 219 = S.2.1 219 := by rw [hS2, w_f, if_neg (by decide)]
      have x4 : ∀ i, cx_ex S4 i = if i = ec then y else cx_ex S i := fun i => by
        unfold cx_ex
        rw [hS4, w_Ff, hS3, w_f, if_pos rfl, emn, w_u, r219]
        by_cases z : i = ec
        · rw [if_pos z, if_pos z]
          exact hy.symm
        · rw [if_neg z, if_neg z]
      have b4 : ∀ x, cx_bm S4 x = cx_bm S2 x := fun x => by
        unfold cx_bm
        rw [hS4, w_Ff, hS3, w_f, if_neg (by decide)]
      refine ⟨m + 1, S4, ec + 1, F_w_shineFrom_p3 hi hs.symm rfl rfl q1 hS2 hS.symm rfl q2 hS3 rfl hS4 rfl, by rw [em]; omega, ⟨fun x x0 x1 => by rw [b4]; exact L1 x x0 x1, fun i hi => ?_, fun i j hi hj e => ?_, fun x x0 x1 xs xb => ?_⟩, by rw [hS4, hS3, hS2]; exact kp.uF (kp.uf (kp.uf kp.rf (Or.inl rfl)) (Or.inr rfl)) ⟨rfl, rfl⟩, Or.inl (by rw [hS4, w_I, if_pos ⟨rfl, rfl⟩])⟩
      · rw [x4]
        split
        · refine ⟨by omega, ys, ?_⟩
          rw [b4, r218, if_pos rfl]
          omega
        · obtain ⟨a1, a2, a3⟩ := h2 i (by omega)
          refine ⟨a1, a2, ?_⟩
          rw [b4, r218]
          split
          · omega
          · exact a3
      · rw [x4, x4] at e
        have nx : ∀ i, i < ec → cx_ex S i ≠ y := fun i hi z => by
          have := (h2 i hi).2.2
          rw [z] at this
          exact this b1
        split at e
        · split at e
          · omega
          · exact absurd e.symm (nx j (by omega))
        · split at e
          · exact absurd e (nx i (by omega))
          · exact h3 i j (by omega) (by omega) e
      · rw [b4, r218] at xb
        by_cases z : x = y
        · exact ⟨ec, by omega, by rw [x4, if_pos rfl, z]⟩
        · rw [if_neg (by omega)] at xb
          obtain ⟨i, hi, ei⟩ := h4 x x0 x1 xs xb
          exact ⟨i, by omega, by rw [x4, if_neg (by omega)]; exact ei⟩
  · have b1 : cx_bm S y ≠ 1000 := by
      unfold cx_bm
      rw [← ey]
      exact dk_neqc (k := 1000) (by decide +kernel) q1
    refine ⟨m, S, ec, F_w_shineFrom_p1 hi hs.symm rfl rfl q1 rfl, hmm, ⟨fun x x0 x1 => ?_, h2, h3, h4⟩, kp.rf, Or.inr ⟨rfl, rfl⟩⟩
    rcases h1 x x0 x1 with ⟨z1, z2⟩ | ⟨c, d1, d2, d3, d4, d5⟩
    · refine Or.inl ⟨z1, fun c hc1 => ?_⟩
      rcases hc1 with z3 | z3
      · exact z2 c z3
      · exact absurd z1 (by rw [show x = y by omega]; exact b1)
    · refine Or.inr ⟨c, Or.inl d1, d2, d3, d4, fun c' hc' hl' => ?_⟩
      rcases hc' with z3 | z3
      · exact d5 c' z3 hl'
      · rw [z3.1]
        exact hm c _ d1 d2
end XG
