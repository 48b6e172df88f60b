/-! the class works out a rule -/
def cx_st (S : dg_S) (q : e_S) : Prop := (zI S 215 7).toInt = q.2 ∧ ∀ i, i < q.2 → (S.2.1 216 i).toInt = q.1 i
def k_ru (S S1 : dg_S) : Prop := kp (fun a b => a = 215 ∧ b = 7) (fun a => a = 216) S S1
def cx_env (S : dg_S) (s : Int) : Int := if s = -1 then (zI S 215 0).toInt else if s = -2 then (zI S 215 1).toInt else if s = -3 then (zI S 215 2).toInt else if s = -4 then (zI S 215 3).toInt else if s = -5 then (zI S 215 4).toInt else if s = -6 then (zI S 215 5).toInt else 1
theorem k_ru.env {S S1 : dg_S} (h : k_ru S S1) : cx_env S1 = cx_env S := by
  funext s
  unfold cx_env
  rw [h.I (fun z => absurd z.2 (by decide)), h.I (fun z => absurd z.2 (by decide)), h.I (fun z => absurd z.2 (by decide)), h.I (fun z => absurd z.2 (by decide)), h.I (fun z => absurd z.2 (by decide)), h.I (fun z => absurd z.2 (by decide))]
section XE
variable {S S1 : dg_S} {o : Nat} {a b s : Int32} {q : e_S} {f : Nat → Int} {n : Nat} {v : Int}
theorem cx_push (h : cx_st S (f, n)) (hn : n < 64) : ∃ S1, F_r_push o S a = S1 ∧ cx_st S1 (e_w f n a.toInt, n + 1) ∧ k_ru S S1 := by
  obtain ⟨h1, h2⟩ := h
  have h1 : (zI S 215 7).toInt = (n : Int) := h1
  have q : ¬ (64 : Int32) ≤ zI S 215 7 := fun z => by
    have := dk_gec (k := 64) (by decide +kernel) z
    omega
  refine ⟨_, F_r_push_p1 rfl q rfl rfl rfl, ⟨?_, fun i hi => ?_⟩, kp.uF (kp.uf kp.rf rfl) ⟨rfl, rfl⟩⟩
  · rw [w_I, if_pos ⟨rfl, rfl⟩]
    show (zI S 215 7 + (1 : Int32)).toInt = ((n + 1 : Nat) : Int)
    rw [dk_addT (a := (n : Int)) (b := 1) h1 (by decide +kernel) (by omega) (by omega)]
    omega
  · have en : (zI S 215 7).toNatClampNeg = n := by rw [dk_clN]; omega
    rw [w_Ff, w_f, if_pos rfl, w_u, en]
    show _ = (if i = n then a.toInt else f i)
    have hi : i < n + 1 := hi
    split
    · rfl
    · exact h2 i (by omega)
theorem cx_pop (h : cx_st S (f, n + 1)) (hn : n ≤ 64) : ∃ (S1 : dg_S) (v : Int32), F_r_pop o S = (S1, v) ∧ v.toInt = f n ∧ cx_st S1 (f, n) ∧ k_ru S S1 := by
  obtain ⟨h1, h2⟩ := h
  have h1 : (zI S 215 7).toInt = ((n + 1 : Nat) : Int) := h1
  have q : ¬ zI S 215 7 = (0 : Int32) := fun z => by
    have := dk_eqc (k := 0) (by decide +kernel) z
    omega
  have e1 : (zI S 215 7 - (1 : Int32)).toInt = (n : Int) := by
    rw [dk_subT (a := ((n + 1 : Nat) : Int)) (b := 1) h1 (by decide +kernel) (by omega) (by omega)]
    omega
  refine ⟨_, _, F_r_pop_p0 rfl q rfl rfl rfl, ?_, ⟨?_, fun i hi => ?_⟩, kp.uF kp.rf ⟨rfl, rfl⟩⟩
  · rw [w_Ff, show (zI S 215 7 - (1 : Int32)).toNatClampNeg = n by rw [dk_clN]; omega]
    exact h2 n (Nat.lt_succ_self n)
  · rw [w_I, if_pos ⟨rfl, rfl⟩]
    exact e1
  · rw [w_Ff]
    have hi : i < n := hi
    exact h2 i (show i < n + 1 by omega)
theorem cx_fact (h0 : -7 ≤ s.toInt) (h1 : s.toInt < 0) : (F_r_fact o S s).toInt = cx_env S s.toInt := by
  have c : s.toInt = -7 ∨ s.toInt = -6 ∨ s.toInt = -5 ∨ s.toInt = -4 ∨ s.toInt = -3 ∨ s.toInt = -2 ∨ s.toInt = -1 := by omega
  unfold F_r_fact cx_env
  rcases c with c | c | c | c | c | c | c
  · rw [if_neg (dk_neT c (k := -6) (b := -6) (by decide +kernel) (by decide)), if_neg (dk_neT c (k := -5) (b := -5) (by decide +kernel) (by decide)), if_neg (dk_neT c (k := -4) (b := -4) (by decide +kernel) (by decide)), if_neg (dk_neT c (k := -3) (b := -3) (by decide +kernel) (by decide)), if_neg (dk_neT c (k := -2) (b := -2) (by decide +kernel) (by decide)), if_neg (dk_neT c (k := -1) (b := -1) (by decide +kernel) (by decide))]
    rw [if_neg (show ¬ s.toInt = -1 by omega), if_neg (show ¬ s.toInt = -2 by omega), if_neg (show ¬ s.toInt = -3 by omega), if_neg (show ¬ s.toInt = -4 by omega), if_neg (show ¬ s.toInt = -5 by omega), if_neg (show ¬ s.toInt = -6 by omega)]
    decide +kernel
  · rw [if_pos (dk_eqT c (k := -6) (by decide +kernel))]
    rw [if_neg (show ¬ s.toInt = -1 by omega), if_neg (show ¬ s.toInt = -2 by omega), if_neg (show ¬ s.toInt = -3 by omega), if_neg (show ¬ s.toInt = -4 by omega), if_neg (show ¬ s.toInt = -5 by omega), if_pos c]
  · rw [if_neg (dk_neT c (k := -6) (b := -6) (by decide +kernel) (by decide)), if_pos (dk_eqT c (k := -5) (by decide +kernel))]
    rw [if_neg (show ¬ s.toInt = -1 by omega), if_neg (show ¬ s.toInt = -2 by omega), if_neg (show ¬ s.toInt = -3 by omega), if_neg (show ¬ s.toInt = -4 by omega), if_pos c]
  · rw [if_neg (dk_neT c (k := -6) (b := -6) (by decide +kernel) (by decide)), if_neg (dk_neT c (k := -5) (b := -5) (by decide +kernel) (by decide)), if_pos (dk_eqT c (k := -4) (by decide +kernel))]
    rw [if_neg (show ¬ s.toInt = -1 by omega), if_neg (show ¬ s.toInt = -2 by omega), if_neg (show ¬ s.toInt = -3 by omega), if_pos c]
  · rw [if_neg (dk_neT c (k := -6) (b := -6) (by decide +kernel) (by decide)), if_neg (dk_neT c (k := -5) (b := -5) (by decide +kernel) (by decide)), if_neg (dk_neT c (k := -4) (b := -4) (by decide +kernel) (by decide)), if_pos (dk_eqT c (k := -3) (by decide +kernel))]
    rw [if_neg (show ¬ s.toInt = -1 by omega), if_neg (show ¬ s.toInt = -2 by omega), if_pos c]
  · rw [if_neg (dk_neT c (k := -6) (b := -6) (by decide +kernel) (by decide)), if_neg (dk_neT c (k := -5) (b := -5) (by decide +kernel) (by decide)), if_neg (dk_neT c (k := -4) (b := -4) (by decide +kernel) (by decide)), if_neg (dk_neT c (k := -3) (b := -3) (by decide +kernel) (by decide)), if_pos (dk_eqT c (k := -2) (by decide +kernel))]
    rw [if_neg (show ¬ s.toInt = -1 by omega), if_pos c]
  · rw [if_neg (dk_neT c (k := -6) (b := -6) (by decide +kernel) (by decide)), if_neg (dk_neT c (k := -5) (b := -5) (by decide +kernel) (by decide)), if_neg (dk_neT c (k := -4) (b := -4) (by decide +kernel) (by decide)), if_neg (dk_neT c (k := -3) (b := -3) (by decide +kernel) (by decide)), if_neg (dk_neT c (k := -2) (b := -2) (by decide +kernel) (by decide)), if_pos (dk_eqT c (k := -1) (by decide +kernel))]
    rw [if_pos c]
theorem cx_l2i {x : Int64} (h0 : -2147483648 ≤ x.toInt) (h1 : x.toInt ≤ 2147483647) : (Int64.toInt32 x).toInt = x.toInt := by
  rw [Int64.toInt_toInt32]
  exact dk_bm h0 (by omega)
theorem cx_bounded {l : Int64} : (F_r_bounded o S l).toInt = e_cl l.toInt := by
  have h1 := dk_lcmp (x := l) (y := 1000000) rfl
  have h2 := dk_lcmp (x := l) (y := -1000000) rfl
  have m1 : (1000000 : Int64).toInt = 1000000 := by decide +kernel
  have m2 : (-1000000 : Int64).toInt = -1000000 := by decide +kernel
  rw [m1] at h1
  rw [m2] at h2
  by_cases c1 : lg_cmp l 1000000 ≤ (0 : Int32)
  · have d1 := dk_lec (k := 0) (by decide +kernel) c1
    by_cases c2 : (0 : Int32) ≤ lg_cmp l (-1000000)
    · have d2 := dk_gec (k := 0) (by decide +kernel) c2
      rw [F_r_bounded_p0 rfl c1 rfl c2 rfl, cx_l2i (by omega) (by omega)]
      unfold e_cl
      rw [if_neg (by omega), if_neg (by omega)]
    · have d2 := dk_ngec (k := 0) (by decide +kernel) c2
      rw [F_r_bounded_p1 rfl c1 rfl c2]
      unfold e_cl
      rw [if_neg (by omega), if_pos (by omega)]
      decide +kernel
  · have d1 := dk_nlec (k := 0) (by decide +kernel) c1
    rw [F_r_bounded_p2 rfl c1]
    unfold e_cl
    rw [if_pos (by omega)]
    decide +kernel
end XE
theorem i_xor (x y : Int32) : (x ^^^ y).toInt < 0 ↔ (x.toInt < 0 ↔ ¬ y.toInt < 0) := by
  have h : ∀ z : Int32, z.toInt < 0 ↔ z.toBitVec.msb = true := fun z => by
    rw [← Int32.toInt_toBitVec, BitVec.msb_eq_toInt]
    simp
  rw [h, h x, h y, Int32.toBitVec_xor, BitVec.msb_xor]
  cases x.toBitVec.msb <;> cases y.toBitVec.msb <;> decide
section XR
variable {S S1 : dg_S} {o : Nat} {a b s : Int32}
theorem cx_tdiv (ha : -1000000 ≤ a.toInt ∧ a.toInt ≤ 1000000) : (a / b).toInt = a.toInt.tdiv b.toInt := by
  apply Int32.toInt_div_of_ne_left
  intro z
  rw [z] at ha
  exact absurd ha.1 (by decide +kernel)
theorem cx_td_b {a b : Int} (ha : -1000000 ≤ a ∧ a ≤ 1000000) (hb : b ≠ 0) : -1000000 ≤ a.tdiv b ∧ a.tdiv b ≤ 1000000 := by
  have h := Int.natAbs_tdiv_le_natAbs a b
  omega
theorem cx_mul_tdiv {a b : Int} (ha : -1000000 ≤ a ∧ a ≤ 1000000) (hb : -1000000 ≤ b ∧ b ≤ 1000000) (h0 : b ≠ 0) : -3000000 ≤ a.tdiv b * b ∧ a.tdiv b * b ≤ 3000000 := by
  obtain ⟨h1, h2, h3, h4, h5⟩ := e_tm a b h0
  rw [Int.mul_comm]
  generalize b * a.tdiv b = u at h1 ⊢
  omega
theorem cx_floorDiv (ha : -1000000 ≤ a.toInt ∧ a.toInt ≤ 1000000) (hb : -1000000 ≤ b.toInt ∧ b.toInt ≤ 1000000) (h0 : b.toInt ≠ 0) : (F_floorDiv o S a b).toInt = e_fd a.toInt b.toInt := by
  have e1 := cx_tdiv (b := b) ha
  have t1 := cx_td_b ha h0
  have t2 := cx_mul_tdiv ha hb h0
  have e2 : (a / b * b).toInt = a.toInt.tdiv b.toInt * b.toInt := dk_mulT e1 rfl (by omega) (by omega)
  have hx := i_xor a b
  unfold e_fd
  by_cases c1 : (0 : Int32) ≤ a ^^^ b
  · have d1 := dk_gec (k := 0) (by decide +kernel) c1
    rw [F_floorDiv_p0 rfl rfl c1, if_neg (fun z => by have := hx.mpr z.1; omega)]
    exact e1
  · have d1 := dk_ngec (k := 0) (by decide +kernel) c1
    have d2 := hx.mp d1
    by_cases c2 : a / b * b = a
    · rw [F_floorDiv_p1 rfl rfl c1 rfl c2, if_neg (fun z => z.2 (by rw [← e2, c2]))]
      exact e1
    · rw [F_floorDiv_p2 rfl rfl c1 rfl c2 rfl, if_pos ⟨d2, fun z => c2 (Int32.toInt_inj.mp (by rw [e2, z]))⟩]
      exact dk_subT e1 (by decide +kernel) (by omega) (by omega)
theorem cx_floorMod (ha : -1000000 ≤ a.toInt ∧ a.toInt ≤ 1000000) (hb : -1000000 ≤ b.toInt ∧ b.toInt ≤ 1000000) (h0 : b.toInt ≠ 0) : (F_floorMod o S a b).toInt = e_fm a.toInt b.toInt := by
  have e1 := cx_tdiv (b := b) ha
  have t1 := cx_td_b ha h0
  have t2 := cx_mul_tdiv ha hb h0
  have e2 : (a / b * b).toInt = a.toInt.tdiv b.toInt * b.toInt := dk_mulT e1 rfl (by omega) (by omega)
  have e3 : (a - a / b * b).toInt = a.toInt - a.toInt.tdiv b.toInt * b.toInt := dk_subT rfl e2 (by omega) (by omega)
  have hx := i_xor a b
  have tm := e_tm a.toInt b.toInt h0
  have hm : b.toInt * e_fd a.toInt b.toInt = if (a.toInt < 0 ↔ ¬ b.toInt < 0) ∧ a.toInt.tdiv b.toInt * b.toInt ≠ a.toInt then a.toInt.tdiv b.toInt * b.toInt - b.toInt else a.toInt.tdiv b.toInt * b.toInt := by
    unfold e_fd
    split
    · rw [Int.mul_sub, Int.mul_one, Int.mul_comm]
    · rw [Int.mul_comm]
  unfold e_fm
  rw [hm]
  by_cases c1 : (0 : Int32) ≤ a ^^^ b
  · have d1 := dk_gec (k := 0) (by decide +kernel) c1
    rw [F_floorMod_p0 rfl rfl c1, if_neg (fun z => by have := hx.mpr z.1; omega)]
    exact e3
  · have d1 := dk_ngec (k := 0) (by decide +kernel) c1
    have d2 := hx.mp d1
    by_cases c2 : a - a / b * b = (0 : Int32)
    · have d3 := dk_eqc (k := 0) (by decide +kernel) c2
      rw [F_floorMod_p1 rfl rfl c1 c2, if_neg (fun z => z.2 (by omega))]
      exact e3
    · have d3 := dk_neqc (k := 0) (by decide +kernel) c2
      rw [F_floorMod_p2 rfl rfl c1 c2 rfl, if_pos ⟨d2, fun z => d3 (by omega)⟩]
      rw [dk_addT e3 rfl (by omega) (by omega)]
      omega
theorem cx_i64 {x y : Int32} : (Int32.toInt64 x + Int32.toInt64 y).toInt = x.toInt + y.toInt ∧ (Int32.toInt64 x - Int32.toInt64 y).toInt = x.toInt - y.toInt := by
  have h1 := dk_full x
  have h2 := dk_full y
  refine ⟨?_, ?_⟩
  · rw [Int64.toInt_add, Int32.toInt_toInt64, Int32.toInt_toInt64]
    exact Int.bmod_eq_of_le (by omega) (by omega)
  · rw [Int64.toInt_sub, Int32.toInt_toInt64, Int32.toInt_toInt64]
    exact Int.bmod_eq_of_le (by omega) (by omega)
theorem cx_m64 {x y : Int32} (hx : -1000000 ≤ x.toInt ∧ x.toInt ≤ 1000000) (hy : -1000000 ≤ y.toInt ∧ y.toInt ≤ 1000000) : (Int32.toInt64 x * Int32.toInt64 y).toInt = x.toInt * y.toInt := by
  rw [Int64.toInt_mul, Int32.toInt_toInt64, Int32.toInt_toInt64]
  have h : (x.toInt * y.toInt).natAbs ≤ 1000000 * 1000000 := by
    rw [Int.natAbs_mul]
    exact Nat.mul_le_mul (by omega) (by omega)
  generalize x.toInt * y.toInt = z at h
  exact Int.bmod_eq_of_le (by omega) (by omega)
theorem cx_result (hs : -21 ≤ s.toInt ∧ s.toInt ≤ -10) (ha : -1000000 ≤ a.toInt ∧ a.toInt ≤ 1000000) (hb : -1000000 ≤ b.toInt ∧ b.toInt ≤ 1000000) : (F_r_result o S s a b).toInt = e_op s.toInt a.toInt b.toInt := by
  have z0 : (0 : Int32).toInt = 0 := by decide +kernel
  have z1 : (1 : Int32).toInt = 1 := by decide +kernel
  have L : ∀ x : Int32, Int32.ofInt x.toInt = x := fun x => Int32.ofInt_toInt x
  have c : s.toInt = -21 ∨ s.toInt = -20 ∨ s.toInt = -19 ∨ s.toInt = -18 ∨ s.toInt = -17 ∨ s.toInt = -16 ∨ s.toInt = -15 ∨ s.toInt = -14 ∨ s.toInt = -13 ∨ s.toInt = -12 ∨ s.toInt = -11 ∨ s.toInt = -10 := by omega
  unfold F_r_result e_op
  rcases c with c | c | c | c | c | c | c | c | c | c | c | c
  · rw [if_neg (dk_neT c (k := -20) (b := -20) (by decide +kernel) (by decide)), if_neg (dk_neT c (k := -19) (b := -19) (by decide +kernel) (by decide)), if_neg (dk_neT c (k := -18) (b := -18) (by decide +kernel) (by decide)), if_neg (dk_neT c (k := -17) (b := -17) (by decide +kernel) (by decide)), if_neg (dk_neT c (k := -16) (b := -16) (by decide +kernel) (by decide)), if_neg (dk_neT c (k := -15) (b := -15) (by decide +kernel) (by decide)), if_neg (dk_neT c (k := -14) (b := -14) (by decide +kernel) (by decide)), if_neg (dk_neT c (k := -13) (b := -13) (by decide +kernel) (by decide)), if_neg (dk_neT c (k := -12) (b := -12) (by decide +kernel) (by decide)), if_neg (dk_neT c (k := -11) (b := -11) (by decide +kernel) (by decide)), if_neg (dk_neT c (k := -10) (b := -10) (by decide +kernel) (by decide))]
    rw [if_neg (show ¬ s.toInt = -10 by omega), if_neg (show ¬ s.toInt = -11 by omega), if_neg (show ¬ s.toInt = -12 by omega), if_neg (show ¬ s.toInt = -13 by omega), if_neg (show ¬ s.toInt = -14 by omega), if_neg (show ¬ s.toInt = -15 by omega), if_neg (show ¬ s.toInt = -16 by omega), if_neg (show ¬ s.toInt = -17 by omega), if_neg (show ¬ s.toInt = -18 by omega), if_neg (show ¬ s.toInt = -19 by omega), if_neg (show ¬ s.toInt = -20 by omega)]
    show (a ||| b).toInt = e_or a.toInt b.toInt
    unfold e_or
    rw [L, L]
  · rw [if_pos (dk_eqT c (k := -20) (by decide +kernel))]
    rw [if_neg (show ¬ s.toInt = -10 by omega), if_neg (show ¬ s.toInt = -11 by omega), if_neg (show ¬ s.toInt = -12 by omega), if_neg (show ¬ s.toInt = -13 by omega), if_neg (show ¬ s.toInt = -14 by omega), if_neg (show ¬ s.toInt = -15 by omega), if_neg (show ¬ s.toInt = -16 by omega), if_neg (show ¬ s.toInt = -17 by omega), if_neg (show ¬ s.toInt = -18 by omega), if_neg (show ¬ s.toInt = -19 by omega), if_pos c]
    show (a &&& b).toInt = e_and a.toInt b.toInt
    unfold e_and
    rw [L, L]
  · rw [if_neg (dk_neT c (k := -20) (b := -20) (by decide +kernel) (by decide)), if_pos (dk_eqT c (k := -19) (by decide +kernel))]
    rw [if_neg (show ¬ s.toInt = -10 by omega), if_neg (show ¬ s.toInt = -11 by omega), if_neg (show ¬ s.toInt = -12 by omega), if_neg (show ¬ s.toInt = -13 by omega), if_neg (show ¬ s.toInt = -14 by omega), if_neg (show ¬ s.toInt = -15 by omega), if_neg (show ¬ s.toInt = -16 by omega), if_neg (show ¬ s.toInt = -17 by omega), if_neg (show ¬ s.toInt = -18 by omega), if_pos c]
    show (if a = b then (1 : Int32) else 0).toInt = if a.toInt = b.toInt then 1 else 0
    by_cases q : a = b
    · rw [if_pos q, if_pos (by rw [q])]
      exact z1
    · rw [if_neg q, if_neg (fun z => q (Int32.toInt_inj.mp z))]
      exact z0
  · rw [if_neg (dk_neT c (k := -20) (b := -20) (by decide +kernel) (by decide)), if_neg (dk_neT c (k := -19) (b := -19) (by decide +kernel) (by decide)), if_pos (dk_eqT c (k := -18) (by decide +kernel))]
    rw [if_neg (show ¬ s.toInt = -10 by omega), if_neg (show ¬ s.toInt = -11 by omega), if_neg (show ¬ s.toInt = -12 by omega), if_neg (show ¬ s.toInt = -13 by omega), if_neg (show ¬ s.toInt = -14 by omega), if_neg (show ¬ s.toInt = -15 by omega), if_neg (show ¬ s.toInt = -16 by omega), if_neg (show ¬ s.toInt = -17 by omega), if_pos c]
    show (if a ≤ b then (0 : Int32) else 1).toInt = if b.toInt < a.toInt then 1 else 0
    by_cases q : a ≤ b
    · have := w_le.mp q
      rw [if_pos q, if_neg (by omega)]
      exact z0
    · have : ¬ a.toInt ≤ b.toInt := fun z => q (w_le.mpr z)
      rw [if_neg q, if_pos (by omega)]
      exact z1
  · rw [if_neg (dk_neT c (k := -20) (b := -20) (by decide +kernel) (by decide)), if_neg (dk_neT c (k := -19) (b := -19) (by decide +kernel) (by decide)), if_neg (dk_neT c (k := -18) (b := -18) (by decide +kernel) (by decide)), if_pos (dk_eqT c (k := -17) (by decide +kernel))]
    rw [if_neg (show ¬ s.toInt = -10 by omega), if_neg (show ¬ s.toInt = -11 by omega), if_neg (show ¬ s.toInt = -12 by omega), if_neg (show ¬ s.toInt = -13 by omega), if_neg (show ¬ s.toInt = -14 by omega), if_neg (show ¬ s.toInt = -15 by omega), if_neg (show ¬ s.toInt = -16 by omega), if_pos c]
    show (if b ≤ a then (0 : Int32) else 1).toInt = if a.toInt < b.toInt then 1 else 0
    by_cases q : b ≤ a
    · have := w_le.mp q
      rw [if_pos q, if_neg (by omega)]
      exact z0
    · have : ¬ b.toInt ≤ a.toInt := fun z => q (w_le.mpr z)
      rw [if_neg q, if_pos (by omega)]
      exact z1
  · rw [if_neg (dk_neT c (k := -20) (b := -20) (by decide +kernel) (by decide)), if_neg (dk_neT c (k := -19) (b := -19) (by decide +kernel) (by decide)), if_neg (dk_neT c (k := -18) (b := -18) (by decide +kernel) (by decide)), if_neg (dk_neT c (k := -17) (b := -17) (by decide +kernel) (by decide)), if_pos (dk_eqT c (k := -16) (by decide +kernel))]
    rw [if_neg (show ¬ s.toInt = -10 by omega), if_neg (show ¬ s.toInt = -11 by omega), if_neg (show ¬ s.toInt = -12 by omega), if_neg (show ¬ s.toInt = -13 by omega), if_neg (show ¬ s.toInt = -14 by omega), if_neg (show ¬ s.toInt = -15 by omega), if_pos c]
    show (if a ≤ b then b else a).toInt = if b.toInt < a.toInt then a.toInt else b.toInt
    by_cases q : a ≤ b
    · have := w_le.mp q
      rw [if_pos q, if_neg (by omega)]
    · have : ¬ a.toInt ≤ b.toInt := fun z => q (w_le.mpr z)
      rw [if_neg q, if_pos (by omega)]
  · rw [if_neg (dk_neT c (k := -20) (b := -20) (by decide +kernel) (by decide)), if_neg (dk_neT c (k := -19) (b := -19) (by decide +kernel) (by decide)), if_neg (dk_neT c (k := -18) (b := -18) (by decide +kernel) (by decide)), if_neg (dk_neT c (k := -17) (b := -17) (by decide +kernel) (by decide)), if_neg (dk_neT c (k := -16) (b := -16) (by decide +kernel) (by decide)), if_pos (dk_eqT c (k := -15) (by decide +kernel))]
    rw [if_neg (show ¬ s.toInt = -10 by omega), if_neg (show ¬ s.toInt = -11 by omega), if_neg (show ¬ s.toInt = -12 by omega), if_neg (show ¬ s.toInt = -13 by omega), if_neg (show ¬ s.toInt = -14 by omega), if_pos c]
    show (if b ≤ a then b else a).toInt = if a.toInt < b.toInt then a.toInt else b.toInt
    by_cases q : b ≤ a
    · have := w_le.mp q
      rw [if_pos q, if_neg (by omega)]
    · have : ¬ b.toInt ≤ a.toInt := fun z => q (w_le.mpr z)
      rw [if_neg q, if_pos (by omega)]
  · rw [if_neg (dk_neT c (k := -20) (b := -20) (by decide +kernel) (by decide)), if_neg (dk_neT c (k := -19) (b := -19) (by decide +kernel) (by decide)), if_neg (dk_neT c (k := -18) (b := -18) (by decide +kernel) (by decide)), if_neg (dk_neT c (k := -17) (b := -17) (by decide +kernel) (by decide)), if_neg (dk_neT c (k := -16) (b := -16) (by decide +kernel) (by decide)), if_neg (dk_neT c (k := -15) (b := -15) (by decide +kernel) (by decide)), if_pos (dk_eqT c (k := -14) (by decide +kernel))]
    rw [if_neg (show ¬ s.toInt = -10 by omega), if_neg (show ¬ s.toInt = -11 by omega), if_neg (show ¬ s.toInt = -12 by omega), if_neg (show ¬ s.toInt = -13 by omega), if_pos c]
    show (if b = 0 then (0 : Int32) else F_floorMod o S a b).toInt = if b.toInt = 0 then 0 else e_fm a.toInt b.toInt
    by_cases q : b = 0
    · rw [if_pos q, if_pos (by rw [q]; exact z0)]
      exact z0
    · have q1 := dk_neqc (k := 0) (by decide +kernel) q
      rw [if_neg q, if_neg q1]
      exact cx_floorMod ha hb q1
  · rw [if_neg (dk_neT c (k := -20) (b := -20) (by decide +kernel) (by decide)), if_neg (dk_neT c (k := -19) (b := -19) (by decide +kernel) (by decide)), if_neg (dk_neT c (k := -18) (b := -18) (by decide +kernel) (by decide)), if_neg (dk_neT c (k := -17) (b := -17) (by decide +kernel) (by decide)), if_neg (dk_neT c (k := -16) (b := -16) (by decide +kernel) (by decide)), if_neg (dk_neT c (k := -15) (b := -15) (by decide +kernel) (by decide)), if_neg (dk_neT c (k := -14) (b := -14) (by decide +kernel) (by decide)), if_pos (dk_eqT c (k := -13) (by decide +kernel))]
    rw [if_neg (show ¬ s.toInt = -10 by omega), if_neg (show ¬ s.toInt = -11 by omega), if_neg (show ¬ s.toInt = -12 by omega), if_pos c]
    show (if b = 0 then (0 : Int32) else F_r_bounded o S (Int32.toInt64 (F_floorDiv o S a b))).toInt = if b.toInt = 0 then 0 else e_cl (e_fd a.toInt b.toInt)
    by_cases q : b = 0
    · rw [if_pos q, if_pos (by rw [q]; exact z0)]
      exact z0
    · have q1 := dk_neqc (k := 0) (by decide +kernel) q
      rw [if_neg q, if_neg q1, cx_bounded, Int32.toInt_toInt64, cx_floorDiv ha hb q1]
  · rw [if_neg (dk_neT c (k := -20) (b := -20) (by decide +kernel) (by decide)), if_neg (dk_neT c (k := -19) (b := -19) (by decide +kernel) (by decide)), if_neg (dk_neT c (k := -18) (b := -18) (by decide +kernel) (by decide)), if_neg (dk_neT c (k := -17) (b := -17) (by decide +kernel) (by decide)), if_neg (dk_neT c (k := -16) (b := -16) (by decide +kernel) (by decide)), if_neg (dk_neT c (k := -15) (b := -15) (by decide +kernel) (by decide)), if_neg (dk_neT c (k := -14) (b := -14) (by decide +kernel) (by decide)), if_neg (dk_neT c (k := -13) (b := -13) (by decide +kernel) (by decide)), if_pos (dk_eqT c (k := -12) (by decide +kernel))]
    rw [if_neg (show ¬ s.toInt = -10 by omega), if_neg (show ¬ s.toInt = -11 by omega), if_pos c]
    show (F_r_bounded o S (Int32.toInt64 a * Int32.toInt64 b)).toInt = e_cl (a.toInt * b.toInt)
    rw [cx_bounded, cx_m64 ha hb]
  · rw [if_neg (dk_neT c (k := -20) (b := -20) (by decide +kernel) (by decide)), if_neg (dk_neT c (k := -19) (b := -19) (by decide +kernel) (by decide)), if_neg (dk_neT c (k := -18) (b := -18) (by decide +kernel) (by decide)), if_neg (dk_neT c (k := -17) (b := -17) (by decide +kernel) (by decide)), if_neg (dk_neT c (k := -16) (b := -16) (by decide +kernel) (by decide)), if_neg (dk_neT c (k := -15) (b := -15) (by decide +kernel) (by decide)), if_neg (dk_neT c (k := -14) (b := -14) (by decide +kernel) (by decide)), if_neg (dk_neT c (k := -13) (b := -13) (by decide +kernel) (by decide)), if_neg (dk_neT c (k := -12) (b := -12) (by decide +kernel) (by decide)), if_pos (dk_eqT c (k := -11) (by decide +kernel))]
    rw [if_neg (show ¬ s.toInt = -10 by omega), if_pos c]
    show (F_r_bounded o S (Int32.toInt64 a - Int32.toInt64 b)).toInt = e_cl (a.toInt - b.toInt)
    rw [cx_bounded, cx_i64.2]
  · rw [if_neg (dk_neT c (k := -20) (b := -20) (by decide +kernel) (by decide)), if_neg (dk_neT c (k := -19) (b := -19) (by decide +kernel) (by decide)), if_neg (dk_neT c (k := -18) (b := -18) (by decide +kernel) (by decide)), if_neg (dk_neT c (k := -17) (b := -17) (by decide +kernel) (by decide)), if_neg (dk_neT c (k := -16) (b := -16) (by decide +kernel) (by decide)), if_neg (dk_neT c (k := -15) (b := -15) (by decide +kernel) (by decide)), if_neg (dk_neT c (k := -14) (b := -14) (by decide +kernel) (by decide)), if_neg (dk_neT c (k := -13) (b := -13) (by decide +kernel) (by decide)), if_neg (dk_neT c (k := -12) (b := -12) (by decide +kernel) (by decide)), if_neg (dk_neT c (k := -11) (b := -11) (by decide +kernel) (by decide)), if_pos (dk_eqT c (k := -10) (by decide +kernel))]
    rw [if_pos c]
    show (F_r_bounded o S (Int32.toInt64 a + Int32.toInt64 b)).toInt = e_cl (a.toInt + b.toInt)
    rw [cx_bounded, cx_i64.1]
end XR
