/-! what a text tells beyond names and counts: folded along its STATEMENTS -/
def z_go {D : Type} (kd vl : Nat → Int32) (stp : y_S → Nat → D → D) : Nat → Nat → y_S → D → Nat → D
  | 0, _, _, d, _ => d
  | f + 1, i, σ, d, k => if i ≠ 0 ∧ (kd k).toInt = 0 then d else match y_one kd vl i σ k with
    | none => d
    | some p => match g_tk kd vl 59 p.2 with
      | none => d
      | some k' => z_go kd vl stp f (i + 1) p.1 (stp σ k d) k'
def z_all {D : Type} (kd vl : Nat → Int32) (stp : y_S → Nat → D → D) (d0 : D) : D := z_go kd vl stp 80 0 y_0 d0 0
def z_at {D : Type} (kd vl : Nat → Int32) (stp : y_S → Nat → D → D) (d0 : D) (i : Nat) (σ : y_S) (d : D) (k : Nat) : Prop := i ≤ 80 ∧ z_all kd vl stp d0 = z_go kd vl stp (80 - i) i σ d k
section ZDS
variable {D : Type} {kd vl : Nat → Int32} {stp : y_S → Nat → D → D} {d0 d : D} {i i' k k' yk : Nat} {σ σ' : y_S}
theorem z_at.zr : z_at kd vl stp d0 0 y_0 d0 0 := ⟨Nat.zero_le _, rfl⟩
theorem z_at.next (h : z_at kd vl stp d0 i σ d k) (hi : i ≠ 80) (hz : ¬ (i ≠ 0 ∧ (kd k).toInt = 0)) (h1 : y_one kd vl i σ k = some (σ', yk)) (h2 : g_tk kd vl 59 yk = some k') (hi' : i' = i + 1) : z_at kd vl stp d0 i' σ' (stp σ k d) k' := by
  obtain ⟨f, hf⟩ : ∃ f, 80 - i = f + 1 := ⟨80 - i - 1, by have := h.1; omega⟩
  refine ⟨by have := h.1; omega, ?_⟩
  rw [h.2, hf]
  show (if i ≠ 0 ∧ (kd k).toInt = 0 then d else _) = _
  rw [if_neg hz, h1]
  show (match g_tk kd vl 59 yk with | none => d | some k' => z_go kd vl stp f (i + 1) σ' (stp σ k d) k') = _
  rw [h2, hi', show 80 - (i + 1) = f by omega]
theorem z_at.done (h : z_at kd vl stp d0 i σ d k) (hi : i ≠ 0) (hz : (kd k).toInt = 0) : z_all kd vl stp d0 = d := by
  rw [h.2]
  cases q : 80 - i with
  | zero => rfl
  | succ f =>
    show (if i ≠ 0 ∧ (kd k).toInt = 0 then d else _) = _
    rw [if_pos ⟨hi, hz⟩]
end ZDS
/-- the shaft's column -/
def z_sh (kd vl : Nat → Int32) (_ : y_S) (k : Nat) (d : Int) : Int := if g_o kd vl 2 k then (vl (k + 1)).toInt else d
theorem z_sh.yy {kd vl : Nat → Int32} {σ : y_S} {k : Nat} {d : Int} (hk : (kd k).toInt = 1) (hv : (vl k).toInt = 2) : z_sh kd vl σ k d = (vl (k + 1)).toInt := by
  unfold z_sh
  rw [if_pos (g_o_iff.mpr ⟨hk, hv⟩)]
theorem z_sh.nn {kd vl : Nat → Int32} {σ : y_S} {k : Nat} {d : Int} (hv : (vl k).toInt ≠ 2) : z_sh kd vl σ k d = d := by
  unfold z_sh
  rw [if_neg (fun z => hv (g_o_iff.mp z).2)]
/-- the class's shaft by its place: none ahead of the first STATEMENT -/
def zs9 (i s : Int) : Int := if i = 0 then 0 else s - 8
theorem zs9.st {kd vl : Nat → Int32} {k : Nat} {i i' s s' : Int} (h0 : 0 ≤ i) (hi : i' = i + 1) (h : True → (i = 0 → s' = 8 ∧ z_sh kd vl y_0 k 0 = 0) ∧ (i ≠ 0 → s' - 8 = z_sh kd vl y_0 k (s - 8))) {σ : y_S} : z_sh kd vl σ k (zs9 i s) = zs9 i' s' := by
  obtain ⟨h1, h2⟩ := h trivial
  show z_sh kd vl y_0 k (zs9 i s) = zs9 i' s'
  unfold zs9
  rw [if_neg (show ¬ i' = 0 by omega)]
  by_cases q : i = 0
  · obtain ⟨a, b⟩ := h1 q
    rw [if_pos q, b, a]
    rfl
  · rw [if_neg q, h2 q]
theorem z_at.to {D : Type} {kd vl : Nat → Int32} {stp : y_S → Nat → D → D} {d0 d d' : D} {i k : Nat} {σ : y_S} (h : z_at kd vl stp d0 i σ d k) (e : d = d') : z_at kd vl stp d0 i σ d' k := by
  rw [← e]
  exact h
theorem z_at.start {kd vl : Nat → Int32} {stp : y_S → Nat → Int → Int} {cx ry mi pl od ii : Int32} {fm fo fr fe : Nat → Int32} {i k : Nat} {s : Int} (hm : mi.toInt = 0) (hp : pl.toInt = 0) (ho : od.toInt = 0) (hc : cx.toInt = 0) (hr : ry.toInt = 0) (hf : ∀ j : Nat, j < 3 → (fr j).toInt = 0) (he : ∀ j : Nat, j < 3 → (fe j).toInt = 0) (hi : i = 0) (hk : k = 0) {i9 : Int} (h9 : i9 = 0) : z_at kd vl stp 0 i (y_gx cx ry fm mi pl fo od fr fe) (zs9 i9 s) k := by
  have e1 := dk_clN mi
  have e2 := dk_clN pl
  have e3 := dk_clN od
  have e : y_gx cx ry fm mi pl fo od fr fe = y_0 := by
    unfold y_gx y_0
    rw [hc, hr, show mi.toNatClampNeg = 0 by omega, show pl.toNatClampNeg = 0 by omega, show od.toNatClampNeg = 0 by omega, hf 0 (by decide), hf 1 (by decide), hf 2 (by decide), he 0 (by decide), he 1 (by decide), he 2 (by decide)]
    rfl
  rw [e, hi, hk, h9]
  exact z_at.zr
theorem z_sh.ff {kd vl : Nat → Int32} {σ : y_S} {k : Nat} {d : Int} (h : g_o kd vl 2 k = false) : z_sh kd vl σ k d = d := by
  unfold z_sh
  rw [if_neg (by rw [h]; decide)]
theorem y_seam_m {kd vl : Nat → Int32} {k : Nat} {f : Nat → y_S × Nat} {p : y_S × Nat} (h : (y_seam kd vl k).map f = some p) (hk : k = 0) : g_o kd vl 2 0 = false := by
  subst hk
  unfold y_seam at h
  cases q : y_own kd vl 0 0 with
  | none => rw [q] at h; cases h
  | some k1 =>
    have h1 := g_o_iff.mp (y_own_o q).1
    cases q2 : g_o kd vl 2 0 with
    | false => rfl
    | true =>
      have h2 := g_o_iff.mp q2
      omega
