/-! the reference: a layer by numbers; what is kept -/
def mx_w (a : Nat) : Nat := if a = 31 ∨ a = 32 then 64 else if a = 35 ∨ a = 36 then 16 else if a = 37 then 10 else if a = 39 then 160 else 1
/-- of layer v alone, and the working rows -/
def k_v (v : Nat) (S S1 : dg_S) : Prop := kp (fun _ _ => False) (fun a => 29 ≤ a ∧ a ≤ 44) S S1 ∧ ∀ a, 29 ≤ a → a ≤ 39 → ∀ j, ¬ (mx_w a * v ≤ j ∧ j < mx_w a * v + mx_w a) → S1.2.1 a j = S.2.1 a j
section KV
variable {v u o : Nat} {S S1 S2 : dg_S} {G : aR} {K : Nat → List Int}
theorem k_v.rf : k_v v S S := ⟨kp.rf, fun _ _ _ _ _ => rfl⟩
theorem k_v.tr (h : k_v v S S1) (h2 : k_v v S1 S2) : k_v v S S2 := ⟨h.1.tr h2.1, fun a a0 a1 j hj => (h2.2 a a0 a1 j hj).trans (h.2 a a0 a1 j hj)⟩
theorem k_x.kv (t : k_x S S1) : k_v v S S1 := ⟨t.w (fun _ _ z => z) (fun a z => by omega), fun a a0 a1 j _ => by rw [(t.2 a (by omega)).1]⟩
theorem k_v.uf {a j : Nat} {x : Int32} (h : k_v v S S1) (a0 : 29 ≤ a) (a1 : a ≤ 39) (hj : mx_w a * v ≤ j ∧ j < mx_w a * v + mx_w a) : k_v v S (dg_uf S1 a (upd (S1.2.1 a) j x)) := by
  refine ⟨h.1.uf ⟨a0, by omega⟩, fun b b0 b1 i hi => ?_⟩
  rw [w_f]
  by_cases z : b = a
  · subst z
    rw [if_pos rfl, w_u, if_neg (fun y => hi (by rw [y]; exact hj))]
    exact h.2 b b0 b1 i hi
  · rw [if_neg z]
    exact h.2 b b0 b1 i hi
theorem mw (a n v j : Nat) (hn : mx_w a = n) (h : n * v ≤ j ∧ j < n * v + n) : mx_w a * v ≤ j ∧ j < mx_w a * v + mx_w a := by rw [hn]; exact h
theorem k_v.I {a b : Nat} (h : k_v v S S1) : zI S1 a b = zI S a b := h.1.I id
theorem k_v.row {a : Nat} (h : k_v v S S1) (ha : ¬ (29 ≤ a ∧ a ≤ 44)) : S1.2.1 a = S.2.1 a := (h.1.2 a ha).1
theorem k_v.gd (t : k_v v S S1) (h : mx_gd G S) : mx_gd G S1 := h.keep (fun b => t.I) (fun i hi => t.row (by omega))
theorem k_v.g (t : k_v v S S1) (h : mx_g G K S) : mx_g G K S1 := h.keep (fun b => t.I) (fun i hi => t.row (by omega))
end KV
abbrev s_L : Type := List (Int × Int × Int × Int)
/-- what is kept: 40 at most -/
def s_kp (L : s_L) (e : Int × Int × Int × Int) : s_L := (if L.length = 40 then L.tail else L) ++ [e]
def mx_kp (S : dg_S) (v : Nat) (L : s_L) : Prop := (S.2.1 38 v).toInt = L.length ∧ L.length ≤ 40 ∧ ∀ i, i < L.length → (S.2.1 39 (160 * v + 4 * i)).toInt = (L.getD i (0, 0, 0, 0)).1 ∧ (S.2.1 39 (160 * v + 4 * i + 1)).toInt = (L.getD i (0, 0, 0, 0)).2.1 ∧ (S.2.1 39 (160 * v + 4 * i + 2)).toInt = (L.getD i (0, 0, 0, 0)).2.2.1 ∧ (S.2.1 39 (160 * v + 4 * i + 3)).toInt = (L.getD i (0, 0, 0, 0)).2.2.2
def mx_bit (n : Int) (k : Nat) : Int := n / 2 ^ k % 2
def mx_lay (G A : aR) (L : s_L) (S : dg_S) (v : Nat) : Prop := mx_ce G A S v ∧ (S.2.1 29 v).toInt = A 0 0 ∧ (S.2.1 30 v).toInt = A 0 1 ∧ ((0 ≤ (S.2.1 33 v).toInt ∧ (S.2.1 33 v).toInt < 64) ∧ ∀ k, k < 6 → A 2 k = mx_bit (S.2.1 33 v).toInt k) ∧ (∀ k : Nat, (k : Int) < G 0 6 → (S.2.1 35 (16 * v + k)).toInt = A 3 k ∧ (S.2.1 36 (16 * v + k)).toInt = A 4 k) ∧ ((0 ≤ (S.2.1 34 v).toInt ∧ (S.2.1 34 v).toInt < 64) ∧ ∀ k, k < 5 → A 5 k = mx_bit (S.2.1 34 v).toInt k) ∧ (∀ k, k < 10 → (S.2.1 37 (10 * v + k)).toInt = A 6 k) ∧ mx_kp S v L
section LL
variable {v u o : Nat} {S S0 S1 S2 : dg_S} {G A : aR} {L : s_L} {a1 a2 a3 a4 : Int32}
theorem mx_kp.keep (h : mx_kp S v L) (e1 : S1.2.1 38 v = S.2.1 38 v) (e2 : ∀ j, 160 * v ≤ j → j < 160 * v + 160 → S1.2.1 39 j = S.2.1 39 j) : mx_kp S1 v L := by
  obtain ⟨h1, h2, h3⟩ := h
  refine ⟨by rw [e1]; exact h1, h2, fun i hi => ?_⟩
  rw [e2 _ (by omega) (by omega), e2 _ (by omega) (by omega), e2 _ (by omega) (by omega), e2 _ (by omega) (by omega)]
  exact h3 i hi
theorem mx_lay.keep (h : mx_lay G A L S v) (hb : G 0 6 ≤ 16) (e : ∀ a, 29 ≤ a → a ≤ 39 → ∀ j, mx_w a * v ≤ j → j < mx_w a * v + mx_w a → S1.2.1 a j = S.2.1 a j) : mx_lay G A L S1 v := by
  obtain ⟨h1, h2, h3, ⟨h4, h4'⟩, h5, ⟨h6, h6'⟩, h7, h8⟩ := h
  have E : ∀ a n, mx_w a = n → 29 ≤ a → a ≤ 39 → ∀ j, n * v ≤ j → j < n * v + n → S1.2.1 a j = S.2.1 a j := fun a n hn a0 a1 j j0 j1 => e a a0 a1 j (mw a n v j hn ⟨j0, j1⟩).1 (mw a n v j hn ⟨j0, j1⟩).2
  have r33 : S1.2.1 33 v = S.2.1 33 v := E 33 1 rfl (by decide) (by decide) v (by omega) (by omega)
  have r34 : S1.2.1 34 v = S.2.1 34 v := E 34 1 rfl (by decide) (by decide) v (by omega) (by omega)
  refine ⟨fun c hc => ?_, ?_, ?_, ?_, fun k hk => ?_, ?_, fun k hk => ?_, ?_⟩
  · have hc0 := hc.1
    have ad : mx_ad v c = 64 * v + c.toNat := by unfold mx_ad; omega
    rw [E 31 64 rfl (by decide) (by decide) _ (by omega) (by omega), E 32 64 rfl (by decide) (by decide) _ (by omega) (by omega)]
    exact h1 c hc
  · rw [E 29 1 rfl (by decide) (by decide) v (by omega) (by omega)]; exact h2
  · rw [E 30 1 rfl (by decide) (by decide) v (by omega) (by omega)]; exact h3
  · rw [r33]; exact ⟨h4, h4'⟩
  · rw [E 35 16 rfl (by decide) (by decide) _ (by omega) (by omega), E 36 16 rfl (by decide) (by decide) _ (by omega) (by omega)]
    exact h5 k hk
  · rw [r34]; exact ⟨h6, h6'⟩
  · rw [E 37 10 rfl (by decide) (by decide) _ (by omega) (by omega)]
    exact h7 k hk
  · exact h8.keep (E 38 1 rfl (by decide) (by decide) v (by omega) (by omega)) (fun j j0 j1 => E 39 160 rfl (by decide) (by decide) j (by omega) (by omega))
theorem k_x.lay (t : k_x S S1) (h : mx_lay G A L S v) (hb : G 0 6 ≤ 16) : mx_lay G A L S1 v := h.keep hb (fun a a0 a1 j _ _ => by rw [(t.2 a (by omega)).1])
/-- another layer stays -/
theorem k_v.lay (t : k_v v S S1) (h : mx_lay G A L S u) (hu : u ≠ v) (hb : G 0 6 ≤ 16) : mx_lay G A L S1 u := by
  refine h.keep hb (fun a a0 a1 j j0 j1 => t.2 a a0 a1 j (fun z => hu ?_))
  obtain ⟨z0, z1⟩ := z
  have c : mx_w a = 64 ∨ mx_w a = 16 ∨ mx_w a = 10 ∨ mx_w a = 160 ∨ mx_w a = 1 := by
    unfold mx_w
    split
    · exact Or.inl rfl
    · split
      · exact Or.inr (Or.inl rfl)
      · split
        · exact Or.inr (Or.inr (Or.inl rfl))
        · split
          · exact Or.inr (Or.inr (Or.inr (Or.inl rfl)))
          · exact Or.inr (Or.inr (Or.inr (Or.inr rfl)))
  rcases c with c | c | c | c | c <;> (rw [c] at j0 j1 z0 z1; omega)
/-- a miner's bit -/
theorem mx_has2 {a b : Int32} (h : 0 ≤ a.toInt ∧ a.toInt < 64) (hb : 0 ≤ b.toInt ∧ b.toInt < 6) : F_m_has2 o S a b = 1 ∧ mx_bit a.toInt b.toInt.toNat = 1 ∨ F_m_has2 o S a b = 0 ∧ mx_bit a.toInt b.toInt.toNat = 0 := by
  have key : ∀ n : Nat, n < 64 → ∀ k : Nat, k < 6 → ((Int32.ofInt (n : Int) >>> (Int32.ofInt (k : Int) &&& 31)) &&& 1).toInt = mx_bit (n : Int) k ∧ (mx_bit (n : Int) k = 0 ∨ mx_bit (n : Int) k = 1) := by decide +kernel
  obtain ⟨e1, e2⟩ := key a.toInt.toNat (by omega) b.toInt.toNat (by omega)
  rw [show ((a.toInt.toNat : Nat) : Int) = a.toInt by omega, show ((b.toInt.toNat : Nat) : Int) = b.toInt by omega, Int32.ofInt_toInt, Int32.ofInt_toInt] at e1
  rw [show ((a.toInt.toNat : Nat) : Int) = a.toInt by omega] at e2
  by_cases q : (a >>> (b &&& 31)) &&& (1 : Int32) = (1 : Int32)
  · have d := dk_eqc (k := 1) (by decide +kernel) q
    exact Or.inl ⟨F_m_has2_p1 rfl rfl q, by omega⟩
  · have d := dk_neqc (k := 1) (by decide +kernel) q
    exact Or.inr ⟨F_m_has2_p0 rfl rfl q, by omega⟩
theorem mx_setbit {a b : Int32} (h : 0 ≤ a.toInt ∧ a.toInt < 64) (hb : 0 ≤ b.toInt ∧ b.toInt < 6) : (0 ≤ (a ||| ((1 : Int32) <<< (b &&& 31))).toInt ∧ (a ||| ((1 : Int32) <<< (b &&& 31))).toInt < 64) ∧ ∀ k, k < 6 → mx_bit (a ||| ((1 : Int32) <<< (b &&& 31))).toInt k = if k = b.toInt.toNat then 1 else mx_bit a.toInt k := by
  have key : ∀ n : Nat, n < 64 → ∀ j : Nat, j < 6 → (0 ≤ (Int32.ofInt (n : Int) ||| ((1 : Int32) <<< (Int32.ofInt (j : Int) &&& 31))).toInt ∧ (Int32.ofInt (n : Int) ||| ((1 : Int32) <<< (Int32.ofInt (j : Int) &&& 31))).toInt < 64) ∧ ∀ k : Nat, k < 6 → mx_bit (Int32.ofInt (n : Int) ||| ((1 : Int32) <<< (Int32.ofInt (j : Int) &&& 31))).toInt k = if k = j then 1 else mx_bit (n : Int) k := by decide +kernel
  have e1 := key a.toInt.toNat (by omega) b.toInt.toNat (by omega)
  rw [show ((a.toInt.toNat : Nat) : Int) = a.toInt by omega, show ((b.toInt.toNat : Nat) : Int) = b.toInt by omega, Int32.ofInt_toInt, Int32.ofInt_toInt] at e1
  exact e1
/-- the rows of what is kept move on -/
theorem mx_wdl (ha : a1.toInt = v) (hv : v ≤ 21) {x2 : Int32} {z : dg_S} {O : Nat → Int32} : ∀ (n k : Nat) (kI : Int32) (S : dg_S), 160 * v + 157 ≤ n + k → 160 * v ≤ k → k ≤ 160 * v + 156 → kI.toInt = k → (∀ j, S.2.1 39 j = if 160 * v ≤ j ∧ j < k then O (j + 4) else O j) → ∃ S1, lp (F_m_writesDown_B4 a1 x2 a2 a3 a4) z n (kI, S) = F_m_writesDown_J3 x2 S1 a1 a2 a3 a4 ∧ (∀ j, S1.2.1 39 j = if 160 * v ≤ j ∧ j < 160 * v + 156 then O (j + 4) else O j) ∧ kp (fun _ _ => False) (fun a => a = 39) S S1 := by
  intro n
  induction n with
  | zero =>
    intro k kI S h1 h2 h3
    omega
  | succ n ih =>
    intro k kI S h1 h2 h3 hk hO
    have e1 : ((160 : Int32) * a1).toInt = 160 * (v : Int) := dk_mulT (by decide +kernel) ha (by omega) (by omega)
    have e2 : ((160 : Int32) * a1 + (160 : Int32)).toInt = 160 * (v : Int) + 160 := dk_addT e1 (by decide +kernel) (by omega) (by omega)
    have e3 : ((160 : Int32) * a1 + (160 : Int32) - (4 : Int32)).toInt = 160 * (v : Int) + 160 - 4 := dk_subT e2 (by decide +kernel) (by omega) (by omega)
    by_cases q : (160 : Int32) * a1 + (160 : Int32) - (4 : Int32) ≤ kI
    · have d := w_le.mp q
      rw [e3, hk] at d
      have ek : k = 160 * v + 156 := by omega
      subst ek
      exact ⟨S, lp_sr (F_m_writesDown_p4 rfl rfl rfl q), hO, kp.rf⟩
    · have d : ¬ ((160 : Int32) * a1 + (160 : Int32) - (4 : Int32)).toInt ≤ kI.toInt := fun z => q (w_le.mpr z)
      rw [e3, hk] at d
      have e4 : (kI + (4 : Int32)).toInt = (k : Int) + 4 := dk_addT hk (by decide +kernel) (by omega) (by omega)
      have ek : (kI + 1).toInt = ((k + 1 : Nat) : Int) := by
        rw [dk_addT hk (b := 1) (by decide +kernel) (by omega) (by omega)]
        omega
      have n4 : (kI + (4 : Int32)).toNatClampNeg = k + 4 := by rw [dk_clN]; omega
      have nk : kI.toNatClampNeg = k := by rw [dk_clN]; omega
      obtain ⟨S2, h9⟩ : ∃ S', S' = dg_uf S 39 (upd (S.2.1 39) kI.toNatClampNeg (S.2.1 39 (kI + (4 : Int32)).toNatClampNeg)) := ⟨_, rfl⟩
      have k2 : kp (fun _ _ => False) (fun a => a = 39) S S2 := by rw [h9]; exact kp.uf kp.rf rfl
      obtain ⟨S1, f1, f2, f3⟩ := ih (k + 1) (kI + 1) S2 (by omega) (by omega) (by omega) ek (fun j => by
        rw [h9, w_f, if_pos rfl, w_u, nk, n4]
        by_cases z : j = k
        · rw [if_pos z, if_pos (by omega), hO, if_neg (by omega), z]
        · rw [if_neg z, hO]
          by_cases y : 160 * v ≤ j ∧ j < k
          · rw [if_pos y, if_pos (by omega)]
          · rw [if_neg y, if_neg (by omega)])
      exact ⟨S1, (lp_sl (F_m_writesDown_p5 rfl rfl rfl q rfl rfl h9 rfl)).trans f1, f2, k2.tr f3⟩
theorem mx_wd1 (ha : a1.toInt = v) (hv : v ≤ 21) {x : Int32} {L : s_L} (hx : x.toInt = L.length) (hL : L.length < 40) (h : ∀ i, i < L.length → (S.2.1 39 (160 * v + 4 * i)).toInt = (L.getD i (0, 0, 0, 0)).1 ∧ (S.2.1 39 (160 * v + 4 * i + 1)).toInt = (L.getD i (0, 0, 0, 0)).2.1 ∧ (S.2.1 39 (160 * v + 4 * i + 2)).toInt = (L.getD i (0, 0, 0, 0)).2.2.1 ∧ (S.2.1 39 (160 * v + 4 * i + 3)).toInt = (L.getD i (0, 0, 0, 0)).2.2.2) : ∃ S1, F_m_writesDown_J1 a1 x S a2 a3 a4 = S1 ∧ mx_kp S1 v (L ++ [((S.2.1 29 v).toInt, a2.toInt, a3.toInt, a4.toInt)]) ∧ k_v v S S1 ∧ ∀ a, a ≠ 38 → a ≠ 39 → S1.2.1 a = S.2.1 a := by
  have an : a1.toNatClampNeg = v := by rw [dk_clN]; omega
  have e1 : ((40 : Int32) * a1).toInt = 40 * (v : Int) := dk_mulT (by decide +kernel) ha (by omega) (by omega)
  have e2 : ((40 : Int32) * a1 + x).toInt = 40 * (v : Int) + L.length := dk_addT e1 hx (by omega) (by omega)
  have e3 : ((4 : Int32) * ((40 : Int32) * a1 + x)).toInt = 4 * (40 * (v : Int) + L.length) := dk_mulT (by decide +kernel) e2 (by omega) (by omega)
  obtain ⟨y, hy⟩ : ∃ y, y = (4 : Int32) * ((40 : Int32) * a1 + x) := ⟨_, rfl⟩
  rw [← hy] at e3
  obtain ⟨m, hm⟩ : ∃ m, m = 160 * v + 4 * L.length := ⟨_, rfl⟩
  have n0 : y.toNatClampNeg = m := by rw [dk_clN]; omega
  have n1 : (y + (1 : Int32)).toNatClampNeg = m + 1 := by rw [dk_clN, dk_addT e3 (b := 1) (by decide +kernel) (by omega) (by omega)]; omega
  have n2 : (y + (2 : Int32)).toNatClampNeg = m + 2 := by rw [dk_clN, dk_addT e3 (b := 2) (by decide +kernel) (by omega) (by omega)]; omega
  have n3 : (y + (3 : Int32)).toNatClampNeg = m + 3 := by rw [dk_clN, dk_addT e3 (b := 3) (by decide +kernel) (by omega) (by omega)]; omega
  obtain ⟨S4, h4⟩ : ∃ S', S' = dg_uf S 39 (upd (S.2.1 39) y.toNatClampNeg (S.2.1 29 a1.toNatClampNeg)) := ⟨_, rfl⟩
  obtain ⟨S7, h7⟩ : ∃ S', S' = dg_uf S4 39 (upd (S4.2.1 39) (y + (1 : Int32)).toNatClampNeg a2) := ⟨_, rfl⟩
  obtain ⟨S10, h10⟩ : ∃ S', S' = dg_uf S7 39 (upd (S7.2.1 39) (y + (2 : Int32)).toNatClampNeg a3) := ⟨_, rfl⟩
  obtain ⟨S13, h13⟩ : ∃ S', S' = dg_uf S10 39 (upd (S10.2.1 39) (y + (3 : Int32)).toNatClampNeg a4) := ⟨_, rfl⟩
  obtain ⟨S18, h18⟩ : ∃ S', S' = dg_uf S13 38 (upd (S13.2.1 38) a1.toNatClampNeg (x + (1 : Int32))) := ⟨_, rfl⟩
  have w39 : mx_w 39 = 160 := rfl
  have w38 : mx_w 38 = 1 := rfl
  have ex : (x + (1 : Int32)).toInt = (L.length : Int) + 1 := dk_addT hx (by decide +kernel) (by omega) (by omega)
  have R : ∀ j, S18.2.1 39 j = if j = m + 3 then a4 else if j = m + 2 then a3 else if j = m + 1 then a2 else if j = m then S.2.1 29 v else S.2.1 39 j := fun j => by
    rw [h18, w_f, if_neg (by decide), h13, w_f, if_pos rfl, w_u, n3, h10, w_f, if_pos rfl, w_u, n2, h7, w_f, if_pos rfl, w_u, n1, h4, w_f, if_pos rfl, w_u, n0, an]
  refine ⟨S18, ?_, ⟨?_, ?_, fun i hi => ?_⟩, ?_, fun a h38 h39 => ?_⟩
  · rw [F_m_writesDown_p1 rfl rfl hy rfl h4 rfl h7 rfl h10 rfl h13]
    exact F_m_writesDown_p0 rfl h18
  · rw [h18, w_f, if_pos rfl, w_u, an, if_pos rfl, ex]
    simp
  · simp
    omega
  · simp only [List.length_append, List.length_cons, List.length_nil] at hi
    by_cases q : i < L.length
    · rw [R, R, R, R]
      rw [if_neg (show ¬ 160 * v + 4 * i = m + 3 by omega), if_neg (show ¬ 160 * v + 4 * i = m + 2 by omega), if_neg (show ¬ 160 * v + 4 * i = m + 1 by omega), if_neg (show ¬ 160 * v + 4 * i = m by omega)]
      rw [if_neg (show ¬ 160 * v + 4 * i + 1 = m + 3 by omega), if_neg (show ¬ 160 * v + 4 * i + 1 = m + 2 by omega), if_neg (show ¬ 160 * v + 4 * i + 1 = m + 1 by omega), if_neg (show ¬ 160 * v + 4 * i + 1 = m by omega)]
      rw [if_neg (show ¬ 160 * v + 4 * i + 2 = m + 3 by omega), if_neg (show ¬ 160 * v + 4 * i + 2 = m + 2 by omega), if_neg (show ¬ 160 * v + 4 * i + 2 = m + 1 by omega), if_neg (show ¬ 160 * v + 4 * i + 2 = m by omega)]
      rw [if_neg (show ¬ 160 * v + 4 * i + 3 = m + 3 by omega), if_neg (show ¬ 160 * v + 4 * i + 3 = m + 2 by omega), if_neg (show ¬ 160 * v + 4 * i + 3 = m + 1 by omega), if_neg (show ¬ 160 * v + 4 * i + 3 = m by omega)]
      have eg : (L ++ [((S.2.1 29 v).toInt, a2.toInt, a3.toInt, a4.toInt)]).getD i (0, 0, 0, 0) = L.getD i (0, 0, 0, 0) := by
        rw [List.getD_eq_getElem?_getD, List.getD_eq_getElem?_getD, List.getElem?_append_left q]
      rw [eg]
      exact h i q
    · have ei : i = L.length := by omega
      subst ei
      have eg : (L ++ [((S.2.1 29 v).toInt, a2.toInt, a3.toInt, a4.toInt)]).getD L.length (0, 0, 0, 0) = ((S.2.1 29 v).toInt, a2.toInt, a3.toInt, a4.toInt) := by
        rw [List.getD_eq_getElem?_getD, List.getElem?_append_right (Nat.le_refl _), Nat.sub_self]
        rfl
      rw [eg, R, R, R, R]
      rw [if_neg (show ¬ 160 * v + 4 * L.length = m + 3 by omega), if_neg (show ¬ 160 * v + 4 * L.length = m + 2 by omega), if_neg (show ¬ 160 * v + 4 * L.length = m + 1 by omega), if_pos (show 160 * v + 4 * L.length = m by omega)]
      rw [if_neg (show ¬ 160 * v + 4 * L.length + 1 = m + 3 by omega), if_neg (show ¬ 160 * v + 4 * L.length + 1 = m + 2 by omega), if_pos (show 160 * v + 4 * L.length + 1 = m + 1 by omega)]
      rw [if_neg (show ¬ 160 * v + 4 * L.length + 2 = m + 3 by omega), if_pos (show 160 * v + 4 * L.length + 2 = m + 2 by omega)]
      rw [if_pos (show 160 * v + 4 * L.length + 3 = m + 3 by omega)]
      exact ⟨rfl, rfl, rfl, rfl⟩
  · rw [h18, an]
    refine k_v.uf ?_ (by decide) (by decide) (mw 38 1 _ _ rfl (by omega))
    rw [h13, n3]
    refine k_v.uf ?_ (by decide) (by decide) (mw 39 160 _ _ rfl (by omega))
    rw [h10, n2]
    refine k_v.uf ?_ (by decide) (by decide) (mw 39 160 _ _ rfl (by omega))
    rw [h7, n1]
    refine k_v.uf ?_ (by decide) (by decide) (mw 39 160 _ _ rfl (by omega))
    rw [h4, n0]
    exact k_v.uf k_v.rf (by decide) (by decide) (mw 39 160 _ _ rfl (by omega))
  · rw [h18, w_f, if_neg h38, h13, w_f, if_neg h39, h10, w_f, if_neg h39, h7, w_f, if_neg h39, h4, w_f, if_neg h39]
theorem tl_getD {d : Int × Int × Int × Int} (L : s_L) (i : Nat) : L.tail.getD i d = L.getD (i + 1) d := by
  cases L <;> rfl
/-- a digging is written down -/
theorem mx_wd (ha : a1.toInt = v) (hv : v ≤ 21) (h : mx_kp S v L) : ∃ S1, F_m_writesDown o S a1 a2 a3 a4 = S1 ∧ mx_kp S1 v (s_kp L ((S.2.1 29 v).toInt, a2.toInt, a3.toInt, a4.toInt)) ∧ k_v v S S1 ∧ ∀ a, a ≠ 38 → a ≠ 39 → S1.2.1 a = S.2.1 a := by
  have an : a1.toNatClampNeg = v := by rw [dk_clN]; omega
  obtain ⟨h1, h2, h3⟩ := h
  unfold s_kp
  by_cases q : S.2.1 38 a1.toNatClampNeg = (40 : Int32)
  · have d := dk_eqc (k := 40) (by decide +kernel) q
    rw [an] at d
    have hl : L.length = 40 := by omega
    rw [if_pos hl]
    have e1 : ((160 : Int32) * a1).toInt = ((160 * v : Nat) : Int) := by
      rw [dk_mulT (a := 160) (by decide +kernel) ha (by omega) (by omega)]
      omega
    obtain ⟨x2, hx2⟩ : ∃ x, x = S.2.1 38 a1.toNatClampNeg := ⟨_, rfl⟩
    obtain ⟨S2, f1, f2, f3⟩ := mx_wdl (a2 := a2) (a3 := a3) (a4 := a4) (x2 := x2) (z := S) (O := S.2.1 39) ha hv ((3517 - (((160 : Int32) * a1 : Int32)).toInt).toNat + 1) (160 * v) ((160 : Int32) * a1) S (by rw [e1]; omega) (Nat.le_refl _) (by omega) e1 (fun j => by rw [if_neg (by omega)])
    obtain ⟨S3, h9⟩ : ∃ S', S' = dg_uf S2 38 (upd (S2.2.1 38) a1.toNatClampNeg (x2 - (1 : Int32))) := ⟨_, rfl⟩
    have ex : (x2 - (1 : Int32)).toInt = (L.tail.length : Int) := by
      rw [dk_subT (a := 40) (b := 1) (by rw [hx2, an]; exact d) (by decide +kernel) (by omega) (by omega), List.length_tail, hl]
      rfl
    have r29 : S3.2.1 29 v = S.2.1 29 v := by rw [h9, w_f, if_neg (by decide), (f3.2 29 (by decide)).1]
    have r39 : ∀ j, S3.2.1 39 j = if 160 * v ≤ j ∧ j < 160 * v + 156 then S.2.1 39 (j + 4) else S.2.1 39 j := fun j => by rw [h9, w_f, if_neg (by decide), f2]
    have w39 : mx_w 39 = 160 := rfl
    have w38 : mx_w 38 = 1 := rfl
    have k2 : k_v v S S2 := ⟨f3.w (fun _ _ z => z) (fun a z => by omega), fun a a0 a1 j hj => by
      by_cases y : a = 39
      · subst y
        rw [f2, if_neg (fun y => hj (mw 39 160 _ _ rfl (by omega)))]
      · rw [(f3.2 a y).1]⟩
    have k3 : k_v v S S3 := by
      rw [h9, an]
      exact k2.uf (by decide) (by decide) (mw 38 1 _ _ rfl (by omega))
    have hl3 : L.tail.length = 39 := by rw [List.length_tail, hl]
    obtain ⟨S1, g1, g2, g3, g4⟩ := mx_wd1 (S := S3) (a2 := a2) (a3 := a3) (a4 := a4) ha hv ex (by omega) (fun i hi => by
      rw [hl3] at hi
      rw [r39, r39, r39, r39, if_pos (by omega), if_pos (by omega), if_pos (by omega), if_pos (by omega), tl_getD]
      have := h3 (i + 1) (by omega)
      rw [show 160 * v + 4 * (i + 1) = 160 * v + 4 * i + 4 by omega] at this
      rw [show 160 * v + 4 * i + 1 + 4 = 160 * v + 4 * i + 4 + 1 by omega, show 160 * v + 4 * i + 2 + 4 = 160 * v + 4 * i + 4 + 2 by omega, show 160 * v + 4 * i + 3 + 4 = 160 * v + 4 * i + 4 + 3 by omega]
      exact this)
    rw [r29] at g2
    refine ⟨S1, ?_, g2, k3.tr g3, fun a h38 h39 => ?_⟩
    · rw [F_m_writesDown_p6 hx2 (by rw [hx2]; exact q) rfl, f1, F_m_writesDown_p3 rfl h9]
      exact g1
    · rw [g4 a h38 h39, h9, w_f, if_neg h38, (f3.2 a h39).1]
  · have d := dk_neqc (k := 40) (by decide +kernel) q
    rw [an] at d
    have hl : ¬ L.length = 40 := fun z => d (by rw [h1, z]; rfl)
    rw [if_neg hl]
    obtain ⟨S1, g1, g2, g3, g4⟩ := mx_wd1 (S := S) (x := S.2.1 38 a1.toNatClampNeg) (a2 := a2) (a3 := a3) (a4 := a4) ha hv (by rw [an]; exact h1) (by omega) h3
    exact ⟨S1, (F_m_writesDown_p2 rfl q).trans g1, g2, g3, g4⟩
end LL
