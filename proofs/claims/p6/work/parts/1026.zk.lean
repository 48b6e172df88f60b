/-! what a text tells of a ground: numbers, rules' steps; told along its STATEMENTS -/
abbrev k_D : Type := aR × (Nat → List Int)
/-- which of the names it is -/
def z_ix : List Int → Int → Int
  | [], _ => 0
  | x :: r, v => if x = v then 0 else z_ix r v + 1
theorem z_ix_of {v : Int} : ∀ (M : List Int) (i : Nat), M[i]? = some v → (∀ j, j < i → M[j]? ≠ some v) → z_ix M v = i
  | [], i, h, _ => by rw [List.getElem?_nil] at h; cases h
  | x :: r, 0, h, _ => by
    have e : x = v := by simpa using h
    show (if x = v then (0 : Int) else _) = _
    rw [if_pos e]
    rfl
  | x :: r, i + 1, h, hn => by
    have e : x ≠ v := fun z => hn 0 (Nat.succ_pos i) (by rw [z]; rfl)
    have ih := z_ix_of r i (by simpa using h) (fun j hj z => hn (j + 1) (by omega) (by simpa using z))
    show (if x = v then (0 : Int) else z_ix r v + 1) = _
    rw [if_neg e, ih]
    push_cast
    rfl
theorem y_nm_get {f : Nat → Int32} {m i : Nat} (h : i < m) : (y_nm f m)[i]? = some (f i).toInt := by
  unfold y_nm
  rw [List.getElem?_map, List.getElem?_range h]
  rfl
theorem z_ix_nm {f : Nat → Int32} {m i : Nat} {v : Int} (h : i < m) (e : (f i).toInt = v) (hn : ∀ j, j < i → (f j).toInt ≠ v) : z_ix (y_nm f m) v = i := by
  refine z_ix_of _ i (by rw [y_nm_get h, e]) (fun j hj z => ?_)
  rw [y_nm_get (by omega)] at z
  exact hn j hj (Option.some.inj z)
def k_0 : k_D := (fun r i => if r = 0 ∧ i = 3 then 3 else if r = 1 then 5 else 0, fun _ => [])
def k_st (kd vl : Nat → Int32) (σ : y_S) (k : Nat) (d : k_D) : k_D :=
  if (vl k).toInt = 0 then (s_up (s_up (s_up d.1 0 0 (vl (k + 1)).toInt) 0 1 (vl (k + 3)).toInt) 0 2 0, d.2)
  else if (vl k).toInt = 2 then (s_up d.1 0 2 (vl (k + 1)).toInt, d.2)
  else if (vl k).toInt = 3 then (s_up d.1 0 3 (vl (k + 1)).toInt, d.2)
  else if (vl k).toInt = 4 then (s_up d.1 0 4 (vl (k + 1)).toInt, d.2)
  else if (vl k).toInt = 5 then (s_up d.1 1 (8 * (vl (k + 2)).toInt + (vl (k + 1)).toInt).toNat (vl (k + 3)).toInt, d.2)
  else if (vl k).toInt = 6 then (s_up d.1 0 5 (d.1 0 5 + 1), d.2)
  else if (vl k).toInt = 7 then (s_up (s_up (s_up d.1 5 (d.1 0 6).toNat (z_ix σ.2.1 (vl (k + 1)).toInt)) 6 (d.1 0 6).toNat (8 * (vl (k + 4)).toInt + (vl (k + 3)).toInt)) 0 6 (d.1 0 6 + 1), d.2)
  else if (vl k).toInt = 9 then (s_up (s_up (s_up (s_up d.1 2 (d.1 0 7).toNat (vl (k + 3)).toInt) 3 (d.1 0 7).toNat (vl (k + 5)).toInt) 4 (d.1 0 7).toNat (vl (k + 7)).toInt) 0 7 (d.1 0 7 + 1), d.2)
  else (d.1, fun j => if (j : Int) = (vl k).toInt - 12 then d_rule kd vl ((vl k).toInt - 12) (k + 1) else d.2 j)
theorem y_old_k {kd vl : Nat → Int32} {M : List Int} {k k' : Nat} (h : y_old kd vl M k = some k') : k' = k + 1 := by
  unfold y_old at h
  split at h
  · exact (Option.some.inj h).symm
  · cases h
theorem y_cell_k {kd vl : Nat → Int32} {q : Int × Int} {k k' : Nat} (h : y_cell kd vl q k = some k') : k' = k + 2 := by
  unfold y_cell at h
  obtain ⟨k1, h1, h2⟩ := Option.bind_eq_some_iff.mp h
  have e1 := (y_num_o h1).2.2.2
  have e2 := (y_num_o h2).2.2.2
  omega
section KST
variable {kd vl : Nat → Int32} {σ : y_S} {k : Nat} {d : k_D}
theorem k_st_0 (h : (vl k).toInt = 0) : k_st kd vl σ k d = (s_up (s_up (s_up d.1 0 0 (vl (k + 1)).toInt) 0 1 (vl (k + 3)).toInt) 0 2 0, d.2) := by unfold k_st; rw [if_pos h]
theorem k_st_2 (h : (vl k).toInt = 2) : k_st kd vl σ k d = (s_up d.1 0 2 (vl (k + 1)).toInt, d.2) := by unfold k_st; rw [if_neg (by omega), if_pos h]
theorem k_st_3 (h : (vl k).toInt = 3) : k_st kd vl σ k d = (s_up d.1 0 3 (vl (k + 1)).toInt, d.2) := by unfold k_st; rw [if_neg (by omega), if_neg (by omega), if_pos h]
theorem k_st_4 (h : (vl k).toInt = 4) : k_st kd vl σ k d = (s_up d.1 0 4 (vl (k + 1)).toInt, d.2) := by unfold k_st; rw [if_neg (by omega), if_neg (by omega), if_neg (by omega), if_pos h]
theorem k_st_5 (h : (vl k).toInt = 5) : k_st kd vl σ k d = (s_up d.1 1 (8 * (vl (k + 2)).toInt + (vl (k + 1)).toInt).toNat (vl (k + 3)).toInt, d.2) := by unfold k_st; rw [if_neg (by omega), if_neg (by omega), if_neg (by omega), if_neg (by omega), if_pos h]
theorem k_st_6 (h : (vl k).toInt = 6) : k_st kd vl σ k d = (s_up d.1 0 5 (d.1 0 5 + 1), d.2) := by unfold k_st; rw [if_neg (by omega), if_neg (by omega), if_neg (by omega), if_neg (by omega), if_neg (by omega), if_pos h]
theorem k_st_7 (h : (vl k).toInt = 7) : k_st kd vl σ k d = (s_up (s_up (s_up d.1 5 (d.1 0 6).toNat (z_ix σ.2.1 (vl (k + 1)).toInt)) 6 (d.1 0 6).toNat (8 * (vl (k + 4)).toInt + (vl (k + 3)).toInt)) 0 6 (d.1 0 6 + 1), d.2) := by unfold k_st; rw [if_neg (by omega), if_neg (by omega), if_neg (by omega), if_neg (by omega), if_neg (by omega), if_neg (by omega), if_pos h]
theorem k_st_9 (h : (vl k).toInt = 9) : k_st kd vl σ k d = (s_up (s_up (s_up (s_up d.1 2 (d.1 0 7).toNat (vl (k + 3)).toInt) 3 (d.1 0 7).toNat (vl (k + 5)).toInt) 4 (d.1 0 7).toNat (vl (k + 7)).toInt) 0 7 (d.1 0 7 + 1), d.2) := by unfold k_st; rw [if_neg (by omega), if_neg (by omega), if_neg (by omega), if_neg (by omega), if_neg (by omega), if_neg (by omega), if_neg (by omega), if_pos h]
theorem k_st_r (h : 12 ≤ (vl k).toInt) : k_st kd vl σ k d = (d.1, fun j : Nat => if (j : Int) = (vl k).toInt - 12 then d_rule kd vl ((vl k).toInt - 12) (k + 1) else d.2 j) := by unfold k_st; rw [if_neg (by omega), if_neg (by omega), if_neg (by omega), if_neg (by omega), if_neg (by omega), if_neg (by omega), if_neg (by omega), if_neg (by omega)]
end KST
/-! the class's ground, while it is told -/
def kc (S : dg_S) (g w : Nat) (C : List Int) : Prop := ∃ fr : Int, 0 ≤ fr ∧ fr + C.length ≤ (zI S 209 7).toInt ∧ (S.2.1 (g + 10) w).toInt = fr ∧ (S.2.1 (g + 11) w).toInt = fr + C.length ∧ ∀ i, i < C.length → (S.2.1 (g + 9) (fr.toNat + i)).toInt = C.getD i 0
def kx0 (d : k_D) (S : dg_S) (g : Nat) : Prop := rX g ∧ ((zI S g 0).toInt = d.1 0 0 ∧ (zI S g 1).toInt = d.1 0 1 ∧ (zI S g 3).toInt = d.1 0 3 ∧ (zI S g 4).toInt = d.1 0 4 ∧ (zI S g 6).toInt = d.1 0 5 ∧ (zI S g 8).toInt = d.1 0 6 ∧ (zI S g 11).toInt = d.1 0 7) ∧ (∀ c : Nat, c < 64 → (S.2.1 (g + 1) (c + 8)).toInt = d.1 1 c) ∧ (∀ k : Nat, (k : Int) < d.1 0 6 → (S.2.1 (g + 3) k).toInt = d.1 5 k ∧ (S.2.1 (g + 4) k).toInt = d.1 6 k + 8) ∧ (∀ k : Nat, (k : Int) < d.1 0 7 → (S.2.1 (g + 6) k).toInt = d.1 2 k ∧ (S.2.1 (g + 7) k).toInt = d.1 3 k ∧ (S.2.1 (g + 8) k).toInt = d.1 4 k) ∧ ∀ w, w < 3 → kc S g w (d.2 w)
def kx (d : k_D) (S : dg_S) (g : Nat) : Prop := kx0 d S g ∧ (zI S g 2).toInt = d.1 0 2 + 8
section KX
variable {S S1 : dg_S} {g : Nat} {WF : List (Nat × Nat)} {WA : List Nat} {G : aR} {K : Nat → List Int} {d : k_D} {v v1 v2 v3 sc c9 : Int32} {C : List Int} {n : Nat}
theorem zI_sm (m : dg_sm shX WF WA S S1) (hg : rX g) (n : Nat) (h : (19, n) ∉ WF) : zI S1 g n = zI S g n := by
  unfold zI
  rw [m.1 g n _ (rX_0 g hg) h]
theorem zI_at (f : S1.1 g n = .int v) : (zI S1 g n).toInt = v.toInt := by rw [← zI_eq f]
theorem kc.keep (h : kc S g n C) (e9 : S1.2.1 (g + 9) = S.2.1 (g + 9)) (e10 : S1.2.1 (g + 10) = S.2.1 (g + 10)) (e11 : S1.2.1 (g + 11) = S.2.1 (g + 11)) (e7 : zI S1 209 7 = zI S 209 7) : kc S1 g n C := by
  obtain ⟨fr, h0, h1, h2, h3, h4⟩ := h
  exact ⟨fr, h0, by rw [e7]; exact h1, by rw [e10]; exact h2, by rw [e11]; exact h3, fun i hi => by rw [e9]; exact h4 i hi⟩
theorem z7_sm (m : dg_sm shX WF WA S S1) (h : (31, 7) ∉ WF) : zI S1 209 7 = zI S 209 7 := by
  unfold zI
  rw [m.1 209 7 _ sX_209 h]
/-- nothing of it is written -/
theorem kx0.keep (h : kx0 d S g) (m : dg_sm shX WF WA S S1) (hF : ∀ n, (19, n) ∉ WF) (h7 : (31, 7) ∉ WF) (hA : ∀ r, 20 ≤ r → r ≤ 30 → r ∉ WA) : kx0 d S1 g := by
  obtain ⟨hg, ⟨a0, a1, a3, a4, a6, a8, a11⟩, b1, b2, b3, b4⟩ := h
  have r1 := (m.2 (g + 1) _ (rX_1 g hg) (hA 20 (by decide) (by decide))).1
  have r3 := (m.2 (g + 3) _ (rX_3 g hg) (hA 22 (by decide) (by decide))).1
  have r4 := (m.2 (g + 4) _ (rX_4 g hg) (hA 23 (by decide) (by decide))).1
  have r6 := (m.2 (g + 6) _ (rX_6 g hg) (hA 25 (by decide) (by decide))).1
  have r7 := (m.2 (g + 7) _ (rX_7 g hg) (hA 26 (by decide) (by decide))).1
  have r8 := (m.2 (g + 8) _ (rX_8 g hg) (hA 27 (by decide) (by decide))).1
  have r9 := (m.2 (g + 9) _ (rX_9 g hg) (hA 28 (by decide) (by decide))).1
  have r10 := (m.2 (g + 10) _ (rX_10 g hg) (hA 29 (by decide) (by decide))).1
  have r11 := (m.2 (g + 11) _ (rX_11 g hg) (hA 30 (by decide) (by decide))).1
  refine ⟨hg, ⟨?_, ?_, ?_, ?_, ?_, ?_, ?_⟩, fun c hc => ?_, fun k hk => ?_, fun k hk => ?_, fun w hw => (b4 w hw).keep r9 r10 r11 (z7_sm m h7)⟩
  · rw [zI_sm m hg _ (hF _)]; exact a0
  · rw [zI_sm m hg _ (hF _)]; exact a1
  · rw [zI_sm m hg _ (hF _)]; exact a3
  · rw [zI_sm m hg _ (hF _)]; exact a4
  · rw [zI_sm m hg _ (hF _)]; exact a6
  · rw [zI_sm m hg _ (hF _)]; exact a8
  · rw [zI_sm m hg _ (hF _)]; exact a11
  · rw [r1]; exact b1 c hc
  · rw [r3, r4]; exact b2 k hk
  · rw [r6, r7, r8]; exact b3 k hk
theorem kx.keep (h : kx d S g) (m : dg_sm shX WF WA S S1) (hF : ∀ n, (19, n) ∉ WF) (h7 : (31, 7) ∉ WF) (hA : ∀ r, 20 ≤ r → r ≤ 30 → r ∉ WA) : kx d S1 g := by
  have hg := h.1.1
  exact ⟨h.1.keep m hF h7 hA, by rw [zI_sm m hg _ (hF _)]; exact h.2⟩
/-- only fields are written, by their numbers -/
theorem kx0.fld (h : kx0 (G, K) S g) (m : dg_sm shX WF [] S S1) (h7 : (31, 7) ∉ WF) (h8 : (19, 8) ∉ WF) (h11 : (19, 11) ∉ WF) {G' : aR} (e6 : G' 0 6 = G 0 6) (e7 : G' 0 7 = G 0 7) (er : ∀ r j, r ≠ 0 → G' r j = G r j) (f0 : (zI S1 g 0).toInt = G' 0 0) (f1 : (zI S1 g 1).toInt = G' 0 1) (f3 : (zI S1 g 3).toInt = G' 0 3) (f4 : (zI S1 g 4).toInt = G' 0 4) (f6 : (zI S1 g 6).toInt = G' 0 5) : kx0 (G', K) S1 g := by
  obtain ⟨hg, ⟨a0, a1, a3, a4, a6, a8, a11⟩, b1, b2, b3, b4⟩ := h
  have r1 := (m.2 (g + 1) _ (rX_1 g hg) (by simp)).1
  have r3 := (m.2 (g + 3) _ (rX_3 g hg) (by simp)).1
  have r4 := (m.2 (g + 4) _ (rX_4 g hg) (by simp)).1
  have r6 := (m.2 (g + 6) _ (rX_6 g hg) (by simp)).1
  have r7 := (m.2 (g + 7) _ (rX_7 g hg) (by simp)).1
  have r8 := (m.2 (g + 8) _ (rX_8 g hg) (by simp)).1
  have r9 := (m.2 (g + 9) _ (rX_9 g hg) (by simp)).1
  have r10 := (m.2 (g + 10) _ (rX_10 g hg) (by simp)).1
  have r11 := (m.2 (g + 11) _ (rX_11 g hg) (by simp)).1
  refine ⟨hg, ⟨f0, f1, f3, f4, f6, ?_, ?_⟩, fun c hc => ?_, fun k hk => ?_, fun k hk => ?_, fun w hw => (b4 w hw).keep r9 r10 r11 (z7_sm m h7)⟩
  · rw [zI_sm m hg _ h8]; exact a8.trans e6.symm
  · rw [zI_sm m hg _ h11]; exact a11.trans e7.symm
  · rw [r1]; exact (b1 c hc).trans (er 1 c (by decide)).symm
  · have hk : (k : Int) < G 0 6 := by rw [← e6]; exact hk
    rw [r3, r4]
    exact ⟨(b2 k hk).1.trans (er 5 k (by decide)).symm, (b2 k hk).2.trans (congrArg (· + 8) (er 6 k (by decide)).symm)⟩
  · have hk : (k : Int) < G 0 7 := by rw [← e7]; exact hk
    rw [r6, r7, r8]
    exact ⟨(b3 k hk).1.trans (er 2 k (by decide)).symm, (b3 k hk).2.1.trans (er 3 k (by decide)).symm, (b3 k hk).2.2.trans (er 4 k (by decide)).symm⟩
theorem s_up_r {r i a b : Nat} {x : Int} (h : a ≠ r) : s_up G r i x a b = G a b := s_up_ne (fun z => h z.1)
theorem s_up_i {r i a b : Nat} {x : Int} (h : b ≠ i) : s_up G r i x a b = G a b := s_up_ne (fun z => h z.2)
theorem kx.reach (h : kx (G, K) S g) (m : dg_sm shX [(19, 3), (31, 0), (31, 1), (31, 4), (31, 5)] [] S S1) (f : S1.1 g 3 = .int v) : kx (s_up G 0 3 v.toInt, K) S1 g := by
  obtain ⟨h, a2⟩ := h
  have hg := h.1
  obtain ⟨-, ⟨a0, a1, a3, a4, a6, a8, a11⟩, -⟩ := id h
  refine ⟨h.fld m (by decide) (by decide) (by decide) (s_up_i (by decide)) (s_up_i (by decide)) (fun r j hr => s_up_r hr) ?_ ?_ ?_ ?_ ?_, ?_⟩
  · rw [zI_sm m hg _ (by decide), s_up_i (by decide)]; exact a0
  · rw [zI_sm m hg _ (by decide), s_up_i (by decide)]; exact a1
  · rw [zI_at f, s_up_at]
  · rw [zI_sm m hg _ (by decide), s_up_i (by decide)]; exact a4
  · rw [zI_sm m hg _ (by decide), s_up_i (by decide)]; exact a6
  · rw [zI_sm m hg _ (by decide)]
    show _ = s_up G 0 3 v.toInt 0 2 + 8
    rw [s_up_i (by decide)]
    exact a2
theorem kx.quake (h : kx (G, K) S g) (m : dg_sm shX [(19, 4), (31, 0), (31, 1), (31, 4), (31, 5)] [] S S1) (f : S1.1 g 4 = .int v) : kx (s_up G 0 4 v.toInt, K) S1 g := by
  obtain ⟨h, a2⟩ := h
  have hg := h.1
  obtain ⟨-, ⟨a0, a1, a3, a4, a6, a8, a11⟩, -⟩ := id h
  refine ⟨h.fld m (by decide) (by decide) (by decide) (s_up_i (by decide)) (s_up_i (by decide)) (fun r j hr => s_up_r hr) ?_ ?_ ?_ ?_ ?_, ?_⟩
  · rw [zI_sm m hg _ (by decide), s_up_i (by decide)]; exact a0
  · rw [zI_sm m hg _ (by decide), s_up_i (by decide)]; exact a1
  · rw [zI_sm m hg _ (by decide), s_up_i (by decide)]; exact a3
  · rw [zI_at f, s_up_at]
  · rw [zI_sm m hg _ (by decide), s_up_i (by decide)]; exact a6
  · rw [zI_sm m hg _ (by decide)]
    show _ = s_up G 0 4 v.toInt 0 2 + 8
    rw [s_up_i (by decide)]
    exact a2
theorem kx.shaft (h : kx (G, K) S g) (m : dg_sm shX [(19, 2), (31, 0), (31, 1), (31, 4), (31, 5)] [] S S1) (f : S1.1 g 2 = .int v) {x : Int} (hv : v.toInt = x + 8) : kx (s_up G 0 2 x, K) S1 g := by
  obtain ⟨h, a2⟩ := h
  have hg := h.1
  obtain ⟨-, ⟨a0, a1, a3, a4, a6, a8, a11⟩, -⟩ := id h
  refine ⟨h.fld m (by decide) (by decide) (by decide) (s_up_i (by decide)) (s_up_i (by decide)) (fun r j hr => s_up_r hr) ?_ ?_ ?_ ?_ ?_, ?_⟩
  · rw [zI_sm m hg _ (by decide), s_up_i (by decide)]; exact a0
  · rw [zI_sm m hg _ (by decide), s_up_i (by decide)]; exact a1
  · rw [zI_sm m hg _ (by decide), s_up_i (by decide)]; exact a3
  · rw [zI_sm m hg _ (by decide), s_up_i (by decide)]; exact a4
  · rw [zI_sm m hg _ (by decide), s_up_i (by decide)]; exact a6
  · rw [zI_at f, hv]
    show x + 8 = s_up G 0 2 x 0 2 + 8
    rw [s_up_at]
theorem kx0.seam (h : kx0 (G, K) S g) (m : dg_sm shX [(19, 0), (19, 1), (19, 2), (31, 0), (31, 1), (31, 4), (31, 5)] [] S S1) (f0 : S1.1 g 0 = .int v) (f1 : S1.1 g 1 = .int v1) (f2 : S1.1 g 2 = .int v2) (h2 : v2.toInt = 8) : kx (s_up (s_up (s_up G 0 0 v.toInt) 0 1 v1.toInt) 0 2 0, K) S1 g := by
  have hg := h.1
  obtain ⟨-, ⟨a0, a1, a3, a4, a6, a8, a11⟩, -⟩ := id h
  refine ⟨h.fld m (by decide) (by decide) (by decide) (by rw [s_up_i (by decide), s_up_i (by decide), s_up_i (by decide)]) (by rw [s_up_i (by decide), s_up_i (by decide), s_up_i (by decide)]) (fun r j hr => by rw [s_up_r hr, s_up_r hr, s_up_r hr]) ?_ ?_ ?_ ?_ ?_, ?_⟩
  · rw [zI_at f0, s_up_i (by decide), s_up_i (by decide), s_up_at]
  · rw [zI_at f1, s_up_i (by decide), s_up_at]
  · rw [zI_sm m hg _ (by decide), s_up_i (by decide), s_up_i (by decide), s_up_i (by decide)]; exact a3
  · rw [zI_sm m hg _ (by decide), s_up_i (by decide), s_up_i (by decide), s_up_i (by decide)]; exact a4
  · rw [zI_sm m hg _ (by decide), s_up_i (by decide), s_up_i (by decide), s_up_i (by decide)]; exact a6
  · rw [zI_at f2, h2]
    show (8 : Int) = s_up (s_up (s_up G 0 0 v.toInt) 0 1 v1.toInt) 0 2 0 0 2 + 8
    rw [s_up_at]
    rfl
theorem kx.miner (h : kx (G, K) S g) (m : dg_sm shX [(19, 6), (31, 0), (31, 1), (31, 4), (31, 5)] [21] S S1) (f : S1.1 g 6 = .int v) (hv : v.toInt = G 0 5 + 1) : kx (s_up G 0 5 (G 0 5 + 1), K) S1 g := by
  obtain ⟨⟨hg, ⟨a0, a1, a3, a4, a6, a8, a11⟩, b1, b2, b3, b4⟩, a2⟩ := h
  have r1 := (m.2 (g + 1) _ (rX_1 g hg) (by decide)).1
  have r3 := (m.2 (g + 3) _ (rX_3 g hg) (by decide)).1
  have r4 := (m.2 (g + 4) _ (rX_4 g hg) (by decide)).1
  have r6 := (m.2 (g + 6) _ (rX_6 g hg) (by decide)).1
  have r7 := (m.2 (g + 7) _ (rX_7 g hg) (by decide)).1
  have r8 := (m.2 (g + 8) _ (rX_8 g hg) (by decide)).1
  have r9 := (m.2 (g + 9) _ (rX_9 g hg) (by decide)).1
  have r10 := (m.2 (g + 10) _ (rX_10 g hg) (by decide)).1
  have r11 := (m.2 (g + 11) _ (rX_11 g hg) (by decide)).1
  have u : ∀ j, j ≠ 5 → s_up G 0 5 (G 0 5 + 1) 0 j = G 0 j := fun j hj => s_up_i hj
  have ur : ∀ r j, r ≠ 0 → s_up G 0 5 (G 0 5 + 1) r j = G r j := fun r j hr => s_up_r hr
  refine ⟨⟨hg, ⟨?_, ?_, ?_, ?_, ?_, ?_, ?_⟩, fun c hc => ?_, fun k hk => ?_, fun k hk => ?_, fun w hw => (b4 w hw).keep r9 r10 r11 (z7_sm m (by decide))⟩, ?_⟩
  · rw [zI_sm m hg _ (by decide)]; exact a0.trans (u 0 (by decide)).symm
  · rw [zI_sm m hg _ (by decide)]; exact a1.trans (u 1 (by decide)).symm
  · rw [zI_sm m hg _ (by decide)]; exact a3.trans (u 3 (by decide)).symm
  · rw [zI_sm m hg _ (by decide)]; exact a4.trans (u 4 (by decide)).symm
  · rw [zI_at f, hv]
    show G 0 5 + 1 = s_up G 0 5 (G 0 5 + 1) 0 5
    exact s_up_at.symm
  · rw [zI_sm m hg _ (by decide)]; exact a8.trans (u 6 (by decide)).symm
  · rw [zI_sm m hg _ (by decide)]; exact a11.trans (u 7 (by decide)).symm
  · rw [r1]; exact (b1 c hc).trans (ur 1 c (by decide)).symm
  · have hk : (k : Int) < G 0 6 := by rw [← u 6 (by decide)]; exact hk
    rw [r3, r4]
    exact ⟨(b2 k hk).1.trans (ur 5 k (by decide)).symm, (b2 k hk).2.trans (congrArg (· + 8) (ur 6 k (by decide)).symm)⟩
  · have hk : (k : Int) < G 0 7 := by rw [← u 7 (by decide)]; exact hk
    rw [r6, r7, r8]
    exact ⟨(b3 k hk).1.trans (ur 2 k (by decide)).symm, (b3 k hk).2.1.trans (ur 3 k (by decide)).symm, (b3 k hk).2.2.trans (ur 4 k (by decide)).symm⟩
  · rw [zI_sm m hg _ (by decide)]
    exact a2.trans (congrArg (· + 8) (u 2 (by decide)).symm)
theorem kx.grade (h : kx (G, K) S g) (m : dg_sm shX [(31, 0), (31, 1), (31, 4), (31, 5)] [20] S S1) {i c : Nat} (hr : S1.2.1 (g + 1) = upd (S.2.1 (g + 1)) i v) (hi : i = c + 8) : kx (s_up G 1 c v.toInt, K) S1 g := by
  obtain ⟨⟨hg, ⟨a0, a1, a3, a4, a6, a8, a11⟩, b1, b2, b3, b4⟩, a2⟩ := h
  have r3 := (m.2 (g + 3) _ (rX_3 g hg) (by decide)).1
  have r4 := (m.2 (g + 4) _ (rX_4 g hg) (by decide)).1
  have r6 := (m.2 (g + 6) _ (rX_6 g hg) (by decide)).1
  have r7 := (m.2 (g + 7) _ (rX_7 g hg) (by decide)).1
  have r8 := (m.2 (g + 8) _ (rX_8 g hg) (by decide)).1
  have r9 := (m.2 (g + 9) _ (rX_9 g hg) (by decide)).1
  have r10 := (m.2 (g + 10) _ (rX_10 g hg) (by decide)).1
  have r11 := (m.2 (g + 11) _ (rX_11 g hg) (by decide)).1
  have u : ∀ r j, r ≠ 1 → s_up G 1 c v.toInt r j = G r j := fun r j hr => s_up_r hr
  have z : ∀ n, zI S1 g n = zI S g n := fun n => zI_sm m hg n (by simp)
  refine ⟨⟨hg, ⟨?_, ?_, ?_, ?_, ?_, ?_, ?_⟩, fun c' hc => ?_, fun k hk => ?_, fun k hk => ?_, fun w hw => (b4 w hw).keep r9 r10 r11 (z7_sm m (by decide))⟩, ?_⟩
  · rw [z]; exact a0.trans (u 0 0 (by decide)).symm
  · rw [z]; exact a1.trans (u 0 1 (by decide)).symm
  · rw [z]; exact a3.trans (u 0 3 (by decide)).symm
  · rw [z]; exact a4.trans (u 0 4 (by decide)).symm
  · rw [z]; exact a6.trans (u 0 5 (by decide)).symm
  · rw [z]; exact a8.trans (u 0 6 (by decide)).symm
  · rw [z]; exact a11.trans (u 0 7 (by decide)).symm
  · show _ = s_up G 1 c v.toInt 1 c'
    rw [hr]
    by_cases q : c' = c
    · rw [q, s_up_at]
      exact congrArg Int32.toInt (if_pos (by omega))
    · rw [s_up_i q]
      exact (congrArg Int32.toInt (if_neg (by omega))).trans (b1 c' hc)
  · have hk : (k : Int) < G 0 6 := by rw [← u 0 6 (by decide)]; exact hk
    rw [r3, r4]
    exact ⟨(b2 k hk).1.trans (u 5 k (by decide)).symm, (b2 k hk).2.trans (congrArg (· + 8) (u 6 k (by decide)).symm)⟩
  · have hk : (k : Int) < G 0 7 := by rw [← u 0 7 (by decide)]; exact hk
    rw [r6, r7, r8]
    exact ⟨(b3 k hk).1.trans (u 2 k (by decide)).symm, (b3 k hk).2.1.trans (u 3 k (by decide)).symm, (b3 k hk).2.2.trans (u 4 k (by decide)).symm⟩
  · rw [z]
    exact a2.trans (congrArg (· + 8) (u 0 2 (by decide)).symm)
/-- a row of a row: told at its place -/
theorem upd_at {f : Nat → Int32} {i j : Nat} {v : Int32} (h : j = i) : upd f i v j = v := by rw [h]; exact dk_upd_s
theorem kx.dig (h : kx (G, K) S g) (m : dg_sm shX [(19, 8), (31, 0), (31, 1), (31, 4), (31, 5)] [22, 23] S S1) (f : S1.1 g 8 = .int v) {p : Int32} (fp : S.1 g 8 = .int p) (h0 : 0 ≤ p.toInt) (hv : v.toInt = p.toInt + 1) (r3 : S1.2.1 (g + 3) = upd (S.2.1 (g + 3)) p.toNatClampNeg v1) (r4 : S1.2.1 (g + 4) = upd (S.2.1 (g + 4)) p.toNatClampNeg v2) {x y : Int} (hx : v1.toInt = x) (hy : v2.toInt = y + 8) : kx (s_up (s_up (s_up G 5 (G 0 6).toNat x) 6 (G 0 6).toNat y) 0 6 (G 0 6 + 1), K) S1 g := by
  obtain ⟨⟨hg, ⟨a0, a1, a3, a4, a6, a8, a11⟩, b1, b2, b3, b4⟩, a2⟩ := h
  have ep : p.toInt = G 0 6 := (zI_at fp).symm.trans a8
  have cp := dk_clN p
  have r1 := (m.2 (g + 1) _ (rX_1 g hg) (by decide)).1
  have r6 := (m.2 (g + 6) _ (rX_6 g hg) (by decide)).1
  have r7 := (m.2 (g + 7) _ (rX_7 g hg) (by decide)).1
  have r8 := (m.2 (g + 8) _ (rX_8 g hg) (by decide)).1
  have r9 := (m.2 (g + 9) _ (rX_9 g hg) (by decide)).1
  have r10 := (m.2 (g + 10) _ (rX_10 g hg) (by decide)).1
  have r11 := (m.2 (g + 11) _ (rX_11 g hg) (by decide)).1
  generalize hG : s_up (s_up (s_up G 5 (G 0 6).toNat x) 6 (G 0 6).toNat y) 0 6 (G 0 6 + 1) = G'
  have u : ∀ j, j ≠ 6 → G' 0 j = G 0 j := fun j hj => by rw [← hG, s_up_i hj, s_up_r (by decide), s_up_r (by decide)]
  have u6 : G' 0 6 = G 0 6 + 1 := by rw [← hG, s_up_at]
  have ur : ∀ r j, r ≠ 0 → r ≠ 5 → r ≠ 6 → G' r j = G r j := fun r j h0 h5 h6 => by rw [← hG, s_up_r h0, s_up_r h6, s_up_r h5]
  have u5 : ∀ j : Nat, G' 5 j = if j = (G 0 6).toNat then x else G 5 j := fun j => by
    rw [← hG, s_up_r (by decide), s_up_r (by decide)]
    by_cases q : j = (G 0 6).toNat
    · rw [if_pos q, q, s_up_at]
    · rw [if_neg q, s_up_i q]
  have u6' : ∀ j : Nat, G' 6 j = if j = (G 0 6).toNat then y else G 6 j := fun j => by
    rw [← hG, s_up_r (by decide)]
    by_cases q : j = (G 0 6).toNat
    · rw [if_pos q, q, s_up_at]
    · rw [if_neg q, s_up_i q, s_up_r (by decide)]
  refine ⟨⟨hg, ⟨?_, ?_, ?_, ?_, ?_, ?_, ?_⟩, fun c hc => ?_, fun k hk => ?_, fun k hk => ?_, fun w hw => (b4 w hw).keep r9 r10 r11 (z7_sm m (by decide))⟩, ?_⟩
  · rw [zI_sm m hg _ (by decide)]; exact a0.trans (u 0 (by decide)).symm
  · rw [zI_sm m hg _ (by decide)]; exact a1.trans (u 1 (by decide)).symm
  · rw [zI_sm m hg _ (by decide)]; exact a3.trans (u 3 (by decide)).symm
  · rw [zI_sm m hg _ (by decide)]; exact a4.trans (u 4 (by decide)).symm
  · rw [zI_sm m hg _ (by decide)]; exact a6.trans (u 5 (by decide)).symm
  · rw [zI_at f, hv, ep]
    exact u6.symm
  · rw [zI_sm m hg _ (by decide)]; exact a11.trans (u 7 (by decide)).symm
  · rw [r1]; exact (b1 c hc).trans (ur 1 c (by decide) (by decide) (by decide)).symm
  · have hk : (k : Int) < G 0 6 + 1 := by rw [← u6]; exact hk
    show (S1.2.1 (g + 3) k).toInt = G' 5 k ∧ (S1.2.1 (g + 4) k).toInt = G' 6 k + 8
    rw [r3, r4, u5, u6']
    by_cases q : k = (G 0 6).toNat
    · rw [if_pos q, if_pos q, upd_at (by omega), upd_at (by omega)]
      exact ⟨hx, hy⟩
    · rw [if_neg q, if_neg q, dk_upd_o (by omega), dk_upd_o (by omega)]
      exact b2 k (by show (k : Int) < G 0 6; omega)
  · have hk : (k : Int) < G 0 7 := by rw [← u 7 (by decide)]; exact hk
    rw [r6, r7, r8]
    exact ⟨(b3 k hk).1.trans (ur 2 k (by decide) (by decide) (by decide)).symm, (b3 k hk).2.1.trans (ur 3 k (by decide) (by decide) (by decide)).symm, (b3 k hk).2.2.trans (ur 4 k (by decide) (by decide) (by decide)).symm⟩
  · rw [zI_sm m hg _ (by decide)]
    exact a2.trans (congrArg (· + 8) (u 2 (by decide)).symm)
theorem kx.order (h : kx (G, K) S g) (m : dg_sm shX [(19, 11), (31, 0), (31, 1), (31, 4), (31, 5)] [24, 25, 26, 27] S S1) (f : S1.1 g 11 = .int v) {p : Int32} (fp : S.1 g 11 = .int p) (h0 : 0 ≤ p.toInt) (hv : v.toInt = p.toInt + 1) (r6 : S1.2.1 (g + 6) = upd (S.2.1 (g + 6)) p.toNatClampNeg v1) (r7 : S1.2.1 (g + 7) = upd (S.2.1 (g + 7)) p.toNatClampNeg v2) (r8 : S1.2.1 (g + 8) = upd (S.2.1 (g + 8)) p.toNatClampNeg v3) : kx (s_up (s_up (s_up (s_up G 2 (G 0 7).toNat v1.toInt) 3 (G 0 7).toNat v2.toInt) 4 (G 0 7).toNat v3.toInt) 0 7 (G 0 7 + 1), K) S1 g := by
  obtain ⟨⟨hg, ⟨a0, a1, a3, a4, a6, a8, a11⟩, b1, b2, b3, b4⟩, a2⟩ := h
  have ep : p.toInt = G 0 7 := (zI_at fp).symm.trans a11
  have cp := dk_clN p
  have r1 := (m.2 (g + 1) _ (rX_1 g hg) (by decide)).1
  have r3 := (m.2 (g + 3) _ (rX_3 g hg) (by decide)).1
  have r4 := (m.2 (g + 4) _ (rX_4 g hg) (by decide)).1
  have r9 := (m.2 (g + 9) _ (rX_9 g hg) (by decide)).1
  have r10 := (m.2 (g + 10) _ (rX_10 g hg) (by decide)).1
  have r11 := (m.2 (g + 11) _ (rX_11 g hg) (by decide)).1
  generalize hG : s_up (s_up (s_up (s_up G 2 (G 0 7).toNat v1.toInt) 3 (G 0 7).toNat v2.toInt) 4 (G 0 7).toNat v3.toInt) 0 7 (G 0 7 + 1) = G'
  have u : ∀ j, j ≠ 7 → G' 0 j = G 0 j := fun j hj => by rw [← hG, s_up_i hj, s_up_r (by decide), s_up_r (by decide), s_up_r (by decide)]
  have u7 : G' 0 7 = G 0 7 + 1 := by rw [← hG, s_up_at]
  have ur : ∀ r j, r ≠ 0 → r ≠ 2 → r ≠ 3 → r ≠ 4 → G' r j = G r j := fun r j h0 h2 h3 h4 => by rw [← hG, s_up_r h0, s_up_r h4, s_up_r h3, s_up_r h2]
  have u2 : ∀ j : Nat, G' 2 j = if j = (G 0 7).toNat then v1.toInt else G 2 j := fun j => by
    rw [← hG, s_up_r (by decide), s_up_r (by decide), s_up_r (by decide)]
    by_cases q : j = (G 0 7).toNat
    · rw [if_pos q, q, s_up_at]
    · rw [if_neg q, s_up_i q]
  have u3 : ∀ j : Nat, G' 3 j = if j = (G 0 7).toNat then v2.toInt else G 3 j := fun j => by
    rw [← hG, s_up_r (by decide), s_up_r (by decide)]
    by_cases q : j = (G 0 7).toNat
    · rw [if_pos q, q, s_up_at]
    · rw [if_neg q, s_up_i q, s_up_r (by decide)]
  have u4 : ∀ j : Nat, G' 4 j = if j = (G 0 7).toNat then v3.toInt else G 4 j := fun j => by
    rw [← hG, s_up_r (by decide)]
    by_cases q : j = (G 0 7).toNat
    · rw [if_pos q, q, s_up_at]
    · rw [if_neg q, s_up_i q, s_up_r (by decide), s_up_r (by decide)]
  refine ⟨⟨hg, ⟨?_, ?_, ?_, ?_, ?_, ?_, ?_⟩, fun c hc => ?_, fun k hk => ?_, fun k hk => ?_, fun w hw => (b4 w hw).keep r9 r10 r11 (z7_sm m (by decide))⟩, ?_⟩
  · rw [zI_sm m hg _ (by decide)]; exact a0.trans (u 0 (by decide)).symm
  · rw [zI_sm m hg _ (by decide)]; exact a1.trans (u 1 (by decide)).symm
  · rw [zI_sm m hg _ (by decide)]; exact a3.trans (u 3 (by decide)).symm
  · rw [zI_sm m hg _ (by decide)]; exact a4.trans (u 4 (by decide)).symm
  · rw [zI_sm m hg _ (by decide)]; exact a6.trans (u 5 (by decide)).symm
  · rw [zI_sm m hg _ (by decide)]; exact a8.trans (u 6 (by decide)).symm
  · rw [zI_at f, hv, ep]
    exact u7.symm
  · rw [r1]; exact (b1 c hc).trans (ur 1 c (by decide) (by decide) (by decide) (by decide)).symm
  · have hk : (k : Int) < G 0 6 := by rw [← u 6 (by decide)]; exact hk
    rw [r3, r4]
    exact ⟨(b2 k hk).1.trans (ur 5 k (by decide) (by decide) (by decide) (by decide)).symm, (b2 k hk).2.trans (congrArg (· + 8) (ur 6 k (by decide) (by decide) (by decide) (by decide)).symm)⟩
  · have hk : (k : Int) < G 0 7 + 1 := by rw [← u7]; exact hk
    show (S1.2.1 (g + 6) k).toInt = G' 2 k ∧ (S1.2.1 (g + 7) k).toInt = G' 3 k ∧ (S1.2.1 (g + 8) k).toInt = G' 4 k
    rw [r6, r7, r8, u2, u3, u4]
    by_cases q : k = (G 0 7).toNat
    · rw [if_pos q, if_pos q, if_pos q, upd_at (by omega), upd_at (by omega), upd_at (by omega)]
      exact ⟨rfl, rfl, rfl⟩
    · rw [if_neg q, if_neg q, if_neg q, dk_upd_o (by omega), dk_upd_o (by omega), dk_upd_o (by omega)]
      exact b3 k (by show (k : Int) < G 0 7; omega)
  · rw [zI_sm m hg _ (by decide)]
    exact a2.trans (congrArg (· + 8) (u 2 (by decide)).symm)
theorem kx.rule (h : kx (G, K) S g) (m : dg_sm shX [(31, 0), (31, 1), (31, 4), (31, 6), (31, 7)] [28, 29, 30] S S1) (hn : n < 3) (fs : S.1 209 7 = .int sc) (q : q_as g S S1 sc C) (f9 : S1.1 209 7 = .int c9) (r10 : S1.2.1 (g + 10) = upd (S.2.1 (g + 10)) n sc) (r11 : S1.2.1 (g + 11) = upd (S.2.1 (g + 11)) n c9) {x : Int} (hx : x = n) : kx (G, fun j => if (j : Int) = x then C else K j) S1 g := by
  obtain ⟨⟨hg, ⟨a0, a1, a3, a4, a6, a8, a11⟩, b1, b2, b3, b4⟩, a2⟩ := h
  obtain ⟨b, fb, nb, s0, k1, w1⟩ := q
  cases fb.symm.trans f9
  have r1 := (m.2 (g + 1) _ (rX_1 g hg) (by decide)).1
  have r3 := (m.2 (g + 3) _ (rX_3 g hg) (by decide)).1
  have r4 := (m.2 (g + 4) _ (rX_4 g hg) (by decide)).1
  have r6 := (m.2 (g + 6) _ (rX_6 g hg) (by decide)).1
  have r7 := (m.2 (g + 7) _ (rX_7 g hg) (by decide)).1
  have r8 := (m.2 (g + 8) _ (rX_8 g hg) (by decide)).1
  have z : ∀ j, zI S1 g j = zI S g j := fun j => zI_sm m hg j (by simp)
  have e0 := zI_at fs
  have e1 := zI_at f9
  have cs := dk_clN sc
  refine ⟨⟨hg, ⟨by rw [z]; exact a0, by rw [z]; exact a1, by rw [z]; exact a3, by rw [z]; exact a4, by rw [z]; exact a6, by rw [z]; exact a8, by rw [z]; exact a11⟩, fun c hc => by rw [r1]; exact b1 c hc, fun k hk => by rw [r3, r4]; exact b2 k hk, fun k hk => by rw [r6, r7, r8]; exact b3 k hk, fun w hw => ?_⟩, by rw [z]; exact a2⟩
  show kc S1 g w (if (w : Int) = x then C else K w)
  by_cases e : w = n
  · rw [if_pos (by omega), e]
    refine ⟨sc.toInt, s0, by omega, by rw [r10, upd_at rfl], by rw [r11, upd_at rfl]; exact nb, fun i hi => ?_⟩
    rw [show sc.toInt.toNat + i = sc.toNatClampNeg + i by omega]
    exact w1 i hi
  · rw [if_neg (by omega)]
    obtain ⟨fr, h0, h1, h2, h3, h4⟩ := b4 w hw
    have h1 : fr + ((K w).length : Int) ≤ (zI S 209 7).toInt := h1
    refine ⟨fr, h0, by omega, by rw [r10, dk_upd_o e]; exact h2, by rw [r11, dk_upd_o e]; exact h3, fun i hi => ?_⟩
    rw [k1 _ (by omega)]
    exact h4 i hi
end KX
/-! along the text: so far -/
def KAT (kd vl : Nat → Int32) (i : Nat) (σ : y_S) (k : Nat) (S : dg_S) (g : Nat) : Prop := ∃ d : k_D, z_at kd vl (k_st kd vl) k_0 i σ d k ∧ (i = 0 → kx0 d S g) ∧ (i ≠ 0 → kx d S g)
/-- what a STATEMENT that is taken does -/
def KST (kd vl : Nat → Int32) (i : Nat) (σ : y_S) (k : Nat) (S S1 : dg_S) (g : Nat) : Prop := ∀ d : k_D, (i = 0 → kx0 d S g) → (i ≠ 0 → kx d S g) → kx (k_st kd vl σ k d) S1 g
section KAT
variable {kd vl : Nat → Int32} {S S1 S2 : dg_S} {g i i' k k' yk : Nat} {σ σ' : y_S} {WF : List (Nat × Nat)} {WA : List Nat}
theorem KAT.keep (h : KAT kd vl i σ k S g) (m : dg_sm shX WF WA S S1) (hF : ∀ n, (19, n) ∉ WF) (h7 : (31, 7) ∉ WF) (hA : ∀ r, 20 ≤ r → r ≤ 30 → r ∉ WA) : KAT kd vl i σ k S1 g := by
  obtain ⟨d, a, b, c⟩ := h
  exact ⟨d, a, fun q => (b q).keep m hF h7 hA, fun q => (c q).keep m hF h7 hA⟩
theorem KAT.next (h : KAT kd vl i σ k S g) (hi : i ≠ 80) (hz : ¬ (i ≠ 0 ∧ (kd k).toInt = 0)) (h1 : y_one kd vl i σ k = some (σ', yk)) (h2 : g_tk kd vl 59 yk = some k') (hi' : i' = i + 1) (q : KST kd vl i σ k S S1 g) : KAT kd vl i' σ' k' S1 g := by
  obtain ⟨d, a, b, c⟩ := h
  refine ⟨k_st kd vl σ k d, a.next hi hz h1 h2 hi', fun z => absurd z (by omega), fun _ => q d b c⟩
theorem KAT.done (h : KAT kd vl i σ k S g) (hi : i ≠ 0) (hz : (kd k).toInt = 0) : kx (z_all kd vl (k_st kd vl) k_0) S g := by
  obtain ⟨d, a, b, c⟩ := h
  rw [a.done hi hz]
  exact c hi
end KAT
section KXS
variable {kd vl : Nat → Int32} {S : dg_S} {g i k : Nat} {cx ry mi pl od : Int32} {fm fo fr fe : Nat → Int32}
/-- behind clear() -/
theorem kx0.start (hg : rX g) (f0 : (zI S g 0).toInt = 0) (f1 : (zI S g 1).toInt = 0) (f3 : (zI S g 3).toInt = 3) (f4 : (zI S g 4).toInt = 0) (f6 : (zI S g 6).toInt = 0) (f8 : (zI S g 8).toInt = 0) (f11 : (zI S g 11).toInt = 0) (h1 : ∀ j : Nat, j < 72 → (S.2.1 (g + 1) j).toInt = 5) (h10 : ∀ j : Nat, j < 3 → (S.2.1 (g + 10) j).toInt = 0) (h11 : ∀ j : Nat, j < 3 → (S.2.1 (g + 11) j).toInt = 0) (h7 : 0 ≤ (zI S 209 7).toInt) : kx0 k_0 S g :=
  ⟨hg, ⟨f0, f1, f3, f4, f6, f8, f11⟩, fun c hc => h1 (c + 8) (by omega), fun k hk => absurd (show (k : Int) < 0 from hk) (by omega), fun k hk => absurd (show (k : Int) < 0 from hk) (by omega), fun w hw => ⟨0, by decide, by show (0 : Int) + ((0 : Nat) : Int) ≤ _; omega, h10 w hw, by rw [h11 w hw]; rfl, fun i hi => absurd hi (Nat.not_lt_zero i)⟩⟩
theorem KAT.start (hm : mi.toInt = 0) (hp : pl.toInt = 0) (ho : od.toInt = 0) (hc : cx.toInt = 0) (hr : ry.toInt = 0) (hf : ∀ j : Nat, j < 3 → (fr j).toInt = 0) (he : ∀ j : Nat, j < 3 → (fe j).toInt = 0) (hi : i = 0) (hk : k = 0) (h : kx0 k_0 S g) : KAT kd vl i (y_gx cx ry fm mi pl fo od fr fe) k S g := by
  have e1 := dk_clN mi
  have e2 := dk_clN pl
  have e3 := dk_clN od
  have e : y_gx cx ry fm mi pl fo od fr fe = y_0 := by
    unfold y_gx y_0
    rw [hc, hr, show mi.toNatClampNeg = 0 by omega, show pl.toNatClampNeg = 0 by omega, show od.toNatClampNeg = 0 by omega, hf 0 (by decide), hf 1 (by decide), hf 2 (by decide), he 0 (by decide), he 1 (by decide), he 2 (by decide)]
    rfl
  rw [e, hi, hk]
  exact ⟨k_0, z_at.zr, fun _ => h, fun z => absurd rfl z⟩
end KXS
