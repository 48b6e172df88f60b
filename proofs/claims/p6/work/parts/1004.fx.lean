/-! F: what methods do, as functions of the state -/
def zV (v : Value) : Int32 := match v with | .int x => x | _ => 0
def zI (S : dg_S) (i k : Nat) : Int32 := zV (S.1 i k)
def zL (S : dg_S) (i k : Nat) : Int64 := match S.1 i k with | .long x => x | _ => 0
def zR (o : Nat) (S : dg_S) (i k : Nat) : Nat := match S.1 i k with | .ref a => a - o | _ => 0
theorem zV_eq {v : Value} {x : Int32} (h : v = .int x) : x = zV v := by rw [h]; rfl
theorem zI_eq {S : dg_S} {i k : Nat} {x : Int32} (h : S.1 i k = .int x) : x = zI S i k := zV_eq h
theorem zL_eq {S : dg_S} {i k : Nat} {x : Int64} (h : S.1 i k = .long x) : x = zL S i k := by unfold zL; rw [h]
theorem zR_eq {o : Nat} {S : dg_S} {i k d : Nat} (h : S.1 i k = .ref (o + d)) : d = zR o S i k := by
  unfold zR
  rw [h]
  exact (Nat.add_sub_cancel_left o d).symm
theorem dk_neT {x k : Int32} {a b : Int} (j : x.toInt = a) (hk : k.toInt = b) (h : a ≠ b) : ¬ x = k := fun z => h (by rw [← j, ← hk, z])
theorem dk_neO {x k : Int32} {a c b : Int} (j : x.toInt < a ∨ c < x.toInt) (hk : k.toInt = b) (h : a ≤ b ∧ b ≤ c) : ¬ x = k := fun z => by
  rw [z, hk] at j
  omega
theorem dk_eqT {x k : Int32} {a : Int} (j : x.toInt = a) (hk : k.toInt = a) : x = k := Int32.toInt_inj.mp (j.trans hk.symm)
/-- a loop: again, or out -/
def lp0 {σ ρ : Type} (f : σ → σ ⊕ ρ) (z : ρ) : Nat → σ → ρ
  | 0, _ => z
  | n + 1, s => match f s with
    | .inl s' => lp0 f z n s'
    | .inr r => r
/-- the same, but closed: nothing computes it -/
noncomputable def lp {σ ρ : Type} (f : σ → σ ⊕ ρ) (z : ρ) : Nat → σ → ρ := Classical.choose (p := fun g : Nat → σ → ρ => g = lp0 f z) ⟨_, rfl⟩
theorem lp_d {σ ρ : Type} (f : σ → σ ⊕ ρ) (z : ρ) : lp f z = lp0 f z := Classical.choose_spec (p := fun g : Nat → σ → ρ => g = lp0 f z) ⟨_, rfl⟩
theorem lp_z {σ ρ : Type} (f : σ → σ ⊕ ρ) (z : ρ) (s : σ) : lp f z 0 s = z := by rw [lp_d]; rfl
theorem lp_s {σ ρ : Type} (f : σ → σ ⊕ ρ) (z : ρ) (n : Nat) (s : σ) : lp f z (n + 1) s = match f s with | .inl s' => lp f z n s' | .inr r => r := by rw [lp_d]; rfl
theorem lp_l {σ ρ : Type} {f : σ → σ ⊕ ρ} {z T : ρ} {n : Nat} {s s' : σ} (h : T = lp f z (n + 1) s) (e : f s = .inl s') : T = lp f z n s' := by
  rw [h, lp_s, e]
theorem lp_r {σ ρ : Type} {f : σ → σ ⊕ ρ} {z T : ρ} {n : Nat} {s : σ} {r : ρ} (h : T = lp f z (n + 1) s) (e : f s = .inr r) : T = r := by
  rw [h, lp_s, e]
theorem lp_inv {σ ρ : Type} {f : σ → σ ⊕ ρ} {z : ρ} {P : σ → Prop} {Q : ρ → Prop} {μ : σ → Nat} (hl : ∀ s s', P s → f s = .inl s' → P s' ∧ μ s' < μ s) (hr : ∀ s r, P s → f s = .inr r → Q r) : ∀ (n : Nat) (s : σ), P s → μ s < n → Q (lp f z n s)
  | 0, _, _, h => absurd h (Nat.not_lt_zero _)
  | n + 1, s, hp, h => by
    rw [lp_s]
    cases e : f s with
    | inl s' =>
      obtain ⟨h1, h2⟩ := hl s s' hp e
      exact lp_inv hl hr n s' h1 (by omega)
    | inr r => exact hr s r hp e

