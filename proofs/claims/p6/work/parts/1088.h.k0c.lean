/-! what a ground holds -/
def GXv (d : Nat) (σ : y_S) (S : dg_S) : Prop := rX d ∧ ∃ cx ry mi pl od : Int32, S.1 d 0 = .int cx ∧ S.1 d 1 = .int ry ∧ S.1 d 6 = .int mi ∧ S.1 d 8 = .int pl ∧ S.1 d 11 = .int od ∧ σ = y_gx cx ry (S.2.1 (d + 2)) mi pl (S.2.1 (d + 5)) od (S.2.1 (d + 10)) (S.2.1 (d + 11))
/-- a MINE told in ground d -/
def GXN (d : Nat) (T : Option (Nat × y_S)) (m : Nat) (S : dg_S) : Prop := ∃ σ : y_S, T = some (m, σ) ∧ GXv d σ S
section GXs
variable {S0 S S1 : dg_S} {d m : Nat} {WF : List (Nat × Nat)} {WA : List Nat} {σ : y_S} {T : Option (Nat × y_S)}
theorem GXv.as (h : GXv d σ S) (e0 : ∀ k : Nat, S1.1 d k = S.1 d k) (e1 : ∀ j : Nat, 1 ≤ j → j < 12 → j ≠ 9 → S1.2.1 (d + j) = S.2.1 (d + j)) : GXv d σ S1 := by
  obtain ⟨hd, cx, ry, mi, pl, od, f0, f1, f6, f8, f11, e⟩ := h
  refine ⟨hd, cx, ry, mi, pl, od, (e0 0).trans f0, (e0 1).trans f1, (e0 6).trans f6, (e0 8).trans f8, (e0 11).trans f11, ?_⟩
  rw [e1 2 (by decide) (by decide) (by decide), e1 5 (by decide) (by decide) (by decide), e1 10 (by decide) (by decide) (by decide), e1 11 (by decide) (by decide) (by decide)]
  exact e
theorem GXv.keep (h : GXv d σ S) (m : dg_sm shX WF WA S S1) (hF : gg_nF WF = true) (hA : gg_nA WA = true) : GXv d σ S1 := h.as (gg_keepF h.1 m hF) (fun _ h1 h2 h3 => gg_keepA h.1 m hA h1 h2 h3)
theorem GXv.go (h : GXv d σ S) (g : GOX S d S1) : GXv d σ S1 := h.as g.2.1 g.2.2
theorem GXN.keep (h : GXN d T m S) (q : dg_sm shX WF WA S S1) (hF : gg_nF WF = true) (hA : gg_nA WA = true) : GXN d T m S1 := by
  obtain ⟨σ, e, g⟩ := h
  exact ⟨σ, e, g.keep q hF hA⟩
theorem GXN.mk (hd : rX d) (h : ∃ cx ry mi pl od : Int32, S.1 d 0 = .int cx ∧ S.1 d 1 = .int ry ∧ S.1 d 6 = .int mi ∧ S.1 d 8 = .int pl ∧ S.1 d 11 = .int od ∧ T = some (m, y_gx cx ry (S.2.1 (d + 2)) mi pl (S.2.1 (d + 5)) od (S.2.1 (d + 10)) (S.2.1 (d + 11)))) : GXN d T m S := by
  obtain ⟨cx, ry, mi, pl, od, f0, f1, f6, f8, f11, e⟩ := h
  exact ⟨_, e, hd, cx, ry, mi, pl, od, f0, f1, f6, f8, f11, rfl⟩
theorem GXv.none (hd : rX d) (f0 : S.1 d 0 = .int 0) (f1 : S.1 d 1 = .int 0) (f6 : S.1 d 6 = .int 0) (f8 : S.1 d 8 = .int 0) (f11 : S.1 d 11 = .int 0) (r10 : S.2.1 (d + 10) = fun _ => 0) (r11 : S.2.1 (d + 11) = fun _ => 0) : GXv d y_0 S := by
  refine ⟨hd, 0, 0, 0, 0, 0, f0, f1, f6, f8, f11, ?_⟩
  rw [r10, r11]
  rfl
end GXs
