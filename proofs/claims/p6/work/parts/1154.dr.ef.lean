/-! SALE: both sides -/
/-- a loop that has a counter alone -/
theorem lp_cnt1 {ρ : Type} {f : Int32 → Int32 ⊕ ρ} {z : ρ} {W : Nat} {P : Nat → Prop} {Q : ρ → Prop} (hW : W < 2000000000) (hs : ∀ (c : Nat) (cI : Int32), c < W → cI.toInt = c → P c → (f cI = .inl (cI + 1) ∧ P (c + 1)) ∨ ∃ r, f cI = .inr r ∧ Q r) (he : ∀ (cI : Int32), cI.toInt = W → P W → ∃ r, f cI = .inr r ∧ Q r) : ∀ (n c : Nat) (cI : Int32), W + 1 ≤ n + c → c ≤ W → cI.toInt = c → P c → Q (lp f z n cI) := by
  intro n
  induction n with
  | zero =>
    intro c cI h1 h2
    omega
  | succ n ih =>
    intro c cI h1 h2 h3 h4
    by_cases q : c < W
    · rcases hs c cI q h3 h4 with ⟨e1, p1⟩ | ⟨r, e1, q1⟩
      · rw [lp_sl e1]
        refine ih (c + 1) (cI + 1) (by omega) (by omega) ?_ p1
        rw [dk_addT h3 (b := 1) (by decide +kernel) (by omega) (by omega)]
        omega
      · rw [lp_sr e1]
        exact q1
    · have ec : c = W := by omega
      subst ec
      obtain ⟨r, e1, q1⟩ := he cI h3 h4
      rw [lp_sr e1]
      exact q1
/-- bits of a set of orders -/
def s_pc (n : Nat) : Nat := n % 2 + n / 2 % 2 + n / 4 % 2 + n / 8 % 2 + n / 16 % 2
def s_wd (G : aR) (s : Nat) (g : Int) : Nat → Int
  | 0 => 0
  | k + 1 => s_wd G s g k + (if mx_bit s k = 1 ∧ g ≤ G 2 k then G 3 k else 0)
def s_pd (G : aR) (s : Nat) : Nat → Int
  | 0 => 0
  | k + 1 => s_pd G s k + (if mx_bit s k = 1 then G 4 k else 0)
/-- can all of a set be sold -/
def s_cA (G A : aR) (s : Nat) : Prop := ∀ k : Nat, (k : Int) < G 0 7 → mx_bit s k = 1 → A 5 k ≠ 1 ∧ s_wd G s (G 2 k) (G 0 7).toNat ≤ s_sz A (G 2 k).toNat (10 - (G 2 k).toNat)
noncomputable def s_bS (G A : aR) : Nat → Nat
  | 0 => 0
  | m + 1 => s_if (1 ≤ m ∧ s_cA G A m ∧ (s_pd G (s_bS G A m) (G 0 7).toNat < s_pd G m (G 0 7).toNat ∨ s_pd G (s_bS G A m) (G 0 7).toNat = s_pd G m (G 0 7).toNat ∧ s_pc m < s_pc (s_bS G A m))) m (s_bS G A m)
section EF
variable {o oX oM g n p : Nat} {G A A' : aR} {K : Nat → List Int} {L L' : s_L} {U : s_U} {S S0 S1 SX SM : dg_S} {x x' r c v t : Int} {a a1 a2 a3 a4 b y : Int32} {s : Nat}
theorem w_bit (h : 0 ≤ a.toInt ∧ a.toInt < 64) (hb : 0 ≤ b.toInt ∧ b.toInt < 6) : ((a >>> (b &&& 31)) &&& 1).toInt = mx_bit a.toInt b.toInt.toNat ∧ (mx_bit a.toInt b.toInt.toNat = 0 ∨ mx_bit a.toInt b.toInt.toNat = 1) := by
  have key : ∀ n : Nat, n < 64 → ∀ k : Nat, k < 6 → ((Int32.ofInt (n : Int) >>> (Int32.ofInt (k : Int) &&& 31)) &&& 1).toInt = mx_bit (n : Int) k ∧ (mx_bit (n : Int) k = 0 ∨ mx_bit (n : Int) k = 1) := by decide +kernel
  obtain ⟨e1, e2⟩ := key a.toInt.toNat (by omega) b.toInt.toNat (by omega)
  rw [show ((a.toInt.toNat : Nat) : Int) = a.toInt by omega, show ((b.toInt.toNat : Nat) : Int) = b.toInt by omega, Int32.ofInt_toInt, Int32.ofInt_toInt] at e1
  rw [show ((a.toInt.toNat : Nat) : Int) = a.toInt by omega] at e2
  exact ⟨e1, e2⟩
theorem w_shl1 (h : 0 ≤ a.toInt ∧ a.toInt ≤ 5) : ((1 : Int32) <<< (a &&& 31)).toInt = ((2 ^ a.toInt.toNat : Nat) : Int) ∧ 2 ^ a.toInt.toNat ≤ 32 := by
  have key : ∀ n : Nat, n < 6 → ((1 : Int32) <<< (Int32.ofInt (n : Int) &&& 31)).toInt = ((2 ^ n : Nat) : Int) ∧ 2 ^ n ≤ 32 := by decide +kernel
  have e1 := key a.toInt.toNat (by omega)
  rw [show ((a.toInt.toNat : Nat) : Int) = a.toInt by omega, Int32.ofInt_toInt] at e1
  exact e1
theorem w_pc (h : 0 ≤ a.toInt ∧ a.toInt < 32) : (F_bitCount o S a).toInt = s_pc a.toInt.toNat := by
  have key : ∀ n : Nat, n < 32 → (F_bitCount 0 (fun _ _ => .int 0, fun _ _ => 0, fun _ _ => 0) (Int32.ofInt (n : Int))).toInt = s_pc n := by decide +kernel
  have e1 := key a.toInt.toNat (by omega)
  rw [show ((a.toInt.toNat : Nat) : Int) = a.toInt by omega, Int32.ofInt_toInt] at e1
  exact e1
theorem w_pcl : ∀ (fuel m : Nat) (a b : Int32) (z : Int32), a.toInt = m → m < 32 → 0 ≤ b.toInt → b.toInt + s_pc m ≤ 100 → s_pc m < fuel → (lp F_m_bits_B1 z fuel (a, b)).toInt = b.toInt + s_pc m := by
  have key : ∀ n : Nat, n < 32 → n ≠ 0 → (Int32.ofInt (n : Int) &&& (Int32.ofInt (n : Int) - 1)).toInt < 32 ∧ 0 ≤ (Int32.ofInt (n : Int) &&& (Int32.ofInt (n : Int) - 1)).toInt ∧ s_pc (Int32.ofInt (n : Int) &&& (Int32.ofInt (n : Int) - 1)).toInt.toNat + 1 = s_pc n := by decide +kernel
  have z0 : (0 : Int32).toInt = 0 := by decide +kernel
  have pz : s_pc 0 = 0 := rfl
  have pb : ∀ n : Nat, n < 32 → s_pc n ≤ 5 := by decide +kernel
  intro fuel
  induction fuel with
  | zero =>
    intro m a b z _ _ _ _ h
    omega
  | succ f ih =>
    intro m a b z ha hm hb hb9 hf
    by_cases q : a = (0 : Int32)
    · have d := dk_eqc z0 q
      have em : m = 0 := by omega
      rw [lp_sr (F_m_bits_p0 q), em, pz]
      omega
    · have d := dk_neqc z0 q
      obtain ⟨k1, k2, k3⟩ := key m hm (by omega)
      rw [show ((m : Nat) : Int) = a.toInt by omega, Int32.ofInt_toInt] at k1 k2 k3
      have e1 : (b + 1).toInt = b.toInt + 1 := dk_addT rfl (by decide +kernel) (by omega) (by omega)
      have pm := pb m hm
      rw [lp_sl (F_m_bits_p1 q rfl rfl rfl), ih (a &&& (a - 1)).toInt.toNat (a &&& (a - 1)) (b + 1) z (by omega) (by omega) (by omega) (by omega) (by omega), e1]
      omega
theorem w_bits (h : 0 ≤ a.toInt ∧ a.toInt < 32) : (F_m_bits o S a).toInt = s_pc a.toInt.toNat := by
  have key : ∀ n : Nat, n < 32 → (Int32.ofInt (n : Int)).toUInt32.toNat = n ∧ s_pc n ≤ n ∧ s_pc n ≤ 5 := by decide +kernel
  obtain ⟨e1, e2, e5⟩ := key a.toInt.toNat (by omega)
  rw [show ((a.toInt.toNat : Nat) : Int) = a.toInt by omega, Int32.ofInt_toInt] at e1
  have z0 : (0 : Int32).toInt = 0 := by decide +kernel
  rw [F_m_bits_p2, w_pcl _ a.toInt.toNat a 0 0 (by omega) (by omega) (by decide +kernel) (by rw [z0]; omega) (by rw [e1]; omega), z0]
  omega
theorem s_wd_b {gr : Int} (ok : s_ok G K A U) : ∀ k : Nat, (k : Int) ≤ G 0 7 → 0 ≤ s_wd G s gr k ∧ s_wd G s gr k ≤ 9 * k
  | 0, _ => ⟨Int.le_refl _, by show (0 : Int) ≤ 9 * ((0 : Nat) : Int); omega⟩
  | k + 1, hk => by
    have ih := s_wd_b (gr := gr) ok k (by omega)
    have h3 := (ok.1.2.2.2.2.2.2.2 k (by omega)).2.1
    show 0 ≤ s_wd G s gr k + (if mx_bit s k = 1 ∧ gr ≤ G 2 k then G 3 k else 0) ∧ s_wd G s gr k + (if mx_bit s k = 1 ∧ gr ≤ G 2 k then G 3 k else 0) ≤ 9 * ((k + 1 : Nat) : Int)
    split <;> omega
theorem s_pd_b (ok : s_ok G K A U) : ∀ k : Nat, (k : Int) ≤ G 0 7 → 0 ≤ s_pd G s k ∧ s_pd G s k ≤ 999 * k
  | 0, _ => ⟨Int.le_refl _, by show (0 : Int) ≤ 999 * ((0 : Nat) : Int); omega⟩
  | k + 1, hk => by
    have ih := s_pd_b ok k (by omega)
    have h3 := (ok.1.2.2.2.2.2.2.2 k (by omega)).2.2
    show 0 ≤ s_pd G s k + (if mx_bit s k = 1 then G 4 k else 0) ∧ s_pd G s k + (if mx_bit s k = 1 then G 4 k else 0) ≤ 999 * ((k + 1 : Nat) : Int)
    split <;> omega
/-- wanted from every grade on, where wanted from the grades of the set -/
theorem s_cA_all (ok : s_ok G K A U) : s_cA G A s ↔ (∀ k : Nat, (k : Int) < G 0 7 → mx_bit s k = 1 → A 5 k ≠ 1) ∧ ∀ gr : Nat, gr < 10 → s_wd G s gr (G 0 7).toNat ≤ s_sz A gr (10 - gr) := by
  have h7 := ok.1.2.2.2.2.1
  have hg := ok.1.2.2.2.2.2.2.2
  have w5 := ok.2.2.1.1.2.2.2.2.2
  refine ⟨fun h => ⟨fun k hk hb => (h k hk hb).1, ?_⟩, fun h k hk hb => ⟨h.1 k hk hb, ?_⟩⟩
  · have st : ∀ (gr : Nat), (∀ k : Nat, (k : Int) < G 0 7 → mx_bit s k = 1 → G 2 k ≠ gr) → ∀ k : Nat, (k : Int) ≤ G 0 7 → s_wd G s gr k = s_wd G s ((gr + 1 : Nat) : Int) k := by
      intro gr hn k
      induction k with
      | zero => intro _; rfl
      | succ k ih =>
        intro hk
        have ih := ih (by omega)
        show s_wd G s gr k + (if mx_bit s k = 1 ∧ (gr : Int) ≤ G 2 k then G 3 k else 0) = s_wd G s ((gr + 1 : Nat) : Int) k + (if mx_bit s k = 1 ∧ ((gr + 1 : Nat) : Int) ≤ G 2 k then G 3 k else 0)
        rw [ih]
        by_cases hb : mx_bit s k = 1
        · have hne := hn k (by omega) hb
          by_cases hl : (gr : Int) ≤ G 2 k
          · rw [if_pos ⟨hb, hl⟩, if_pos ⟨hb, by omega⟩]
          · rw [if_neg (fun z => hl z.2), if_neg (fun z => hl (by omega))]
        · rw [if_neg (fun z => hb z.1), if_neg (fun z => hb z.1)]
    have sz : ∀ gr : Nat, gr < 10 → s_sz A (gr + 1) (10 - (gr + 1)) ≤ s_sz A gr (10 - gr) := by
      intro gr hgr
      have e : ∀ m : Nat, s_sz A gr (m + 1) = A 6 gr + s_sz A (gr + 1) m := by
        intro m
        induction m with
        | zero => show (0 : Int) + A 6 (gr + 0) = A 6 gr + 0; rw [Nat.add_zero]; omega
        | succ m ih =>
          show s_sz A gr (m + 1) + A 6 (gr + (m + 1)) = A 6 gr + (s_sz A (gr + 1) m + A 6 (gr + 1 + m))
          rw [ih, show gr + (m + 1) = gr + 1 + m by omega]
          omega
      have e1 := e (10 - (gr + 1))
      rw [show 10 - (gr + 1) + 1 = 10 - gr by omega] at e1
      have := (w5 gr hgr).1
      omega
    have main : ∀ d : Nat, d ≤ 10 → s_wd G s ((10 - d : Nat) : Int) (G 0 7).toNat ≤ s_sz A (10 - d) (10 - (10 - d)) := by
      intro d
      induction d with
      | zero =>
        intro _
        have z : ∀ k : Nat, (k : Int) ≤ G 0 7 → s_wd G s ((10 : Nat) : Int) k = 0 := by
          intro k
          induction k with
          | zero => intro _; rfl
          | succ k ih =>
            intro hk
            have ih := ih (by omega)
            have h2 := (hg k (by omega)).1
            show s_wd G s ((10 : Nat) : Int) k + (if mx_bit s k = 1 ∧ ((10 : Nat) : Int) ≤ G 2 k then G 3 k else 0) = 0
            rw [ih, if_neg (fun z => by omega)]
            rfl
        have e := z (G 0 7).toNat (by omega)
        show s_wd G s ((10 : Nat) : Int) (G 0 7).toNat ≤ (0 : Int)
        omega
      | succ d ih =>
        intro hd
        have ih := ih (by omega)
        by_cases hx : ∃ k : Nat, (k : Int) < G 0 7 ∧ mx_bit s k = 1 ∧ G 2 k = ((10 - (d + 1) : Nat) : Int)
        · obtain ⟨k, hk, hb, he⟩ := hx
          have := (h k hk hb).2
          rw [he, show (((10 - (d + 1) : Nat) : Int)).toNat = 10 - (d + 1) by omega] at this
          exact this
        · have e := st (10 - (d + 1)) (fun k hk hb he => hx ⟨k, hk, hb, he⟩) (G 0 7).toNat (by omega)
          have e2 := sz (10 - (d + 1)) (by omega)
          rw [e]
          rw [show 10 - (d + 1) + 1 = 10 - d by omega] at e2 ⊢
          omega
    intro gr hgr
    have := main (10 - gr) (by omega)
    rw [show 10 - (10 - gr) = gr by omega] at this
    exact this
  · have h2 := (hg k hk).1
    have := h.2 (G 2 k).toNat (by omega)
    rw [show (((G 2 k).toNat : Nat) : Int) = G 2 k by omega] at this
    exact this
theorem s_bS_y {m : Nat} (h1 : 1 ≤ m) (h2 : s_cA G A m) (h3 : s_pd G (s_bS G A m) (G 0 7).toNat < s_pd G m (G 0 7).toNat ∨ s_pd G (s_bS G A m) (G 0 7).toNat = s_pd G m (G 0 7).toNat ∧ s_pc m < s_pc (s_bS G A m)) : s_bS G A (m + 1) = m := s_if_y ⟨h1, h2, h3⟩
theorem s_bS_n {m : Nat} (h : ¬ (s_cA G A m ∧ (s_pd G (s_bS G A m) (G 0 7).toNat < s_pd G m (G 0 7).toNat ∨ s_pd G (s_bS G A m) (G 0 7).toNat = s_pd G m (G 0 7).toNat ∧ s_pc m < s_pc (s_bS G A m)))) : s_bS G A (m + 1) = s_bS G A m := s_if_n (fun z => h z.2)
theorem s_bS_lt : ∀ m : Nat, s_bS G A m ≤ m - 1
  | 0 => Nat.le_refl _
  | m + 1 => by
    have ih := s_bS_lt m
    by_cases h : s_cA G A m ∧ (s_pd G (s_bS G A m) (G 0 7).toNat < s_pd G m (G 0 7).toNat ∨ s_pd G (s_bS G A m) (G 0 7).toNat = s_pd G m (G 0 7).toNat ∧ s_pc m < s_pc (s_bS G A m))
    · by_cases h1 : 1 ≤ m
      · rw [s_bS_y h1 h.1 h.2]
        omega
      · have : s_bS G A (m + 1) = s_bS G A m := s_if_n (fun z => h1 z.1)
        rw [this]
        omega
    · rw [s_bS_n h]
      omega
end EF
