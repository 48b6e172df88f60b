/-! operand() and goesOn() as steps of the machine of frames -/
section OL
variable {kd vl : Nat → Int32} {w kn ph x : Int} {bg : Bool} {nt o k : Nat} {R : List m_F}
theorem m_opd_not (ht : m_tst kn = true) (hb : bg = true) (h : g_o kd vl 23 k = true) : m_opd kd vl w kn ph bg nt R o k = if o = 7 then m_bad else (0, (kn, ph, true, nt + 1) :: R, o + 1, k + 1, false) := by
  unfold m_opd m_fst m_opA
  rw [ht, hb, h]
  rfl
theorem m_opd_br (ht : m_tst kn = true) (hb : bg = true) (h : g_s kd vl 91 k = true) : m_opd kd vl w kn ph bg nt R o k = m_push kn ph nt R o (k + 1) 5 := by
  have h2 : g_o kd vl 23 k = false := by
    cases q : g_o kd vl 23 k with
    | false => rfl
    | true => have a := g_o_iff.mp q; have b := g_s_iff.mp h; omega
  unfold m_opd m_fst m_opA
  rw [ht, hb, h, h2]
  rfl
theorem m_opd_all (ht : m_tst kn = true) (hb : bg = true) (h : g_o kd vl 24 k = true) : m_opd kd vl w kn ph bg nt R o k = (0, (kn, 2, false, nt) :: R, o, k + 1, true) := by
  have a := g_o_iff.mp h
  have h2 : g_o kd vl 23 k = false := by
    cases q : g_o kd vl 23 k with
    | false => rfl
    | true => have b := g_o_iff.mp q; omega
  have h3 : g_s kd vl 91 k = false := by
    cases q : g_s kd vl 91 k with
    | false => rfl
    | true => have b := g_s_iff.mp q; omega
  unfold m_opd m_fst m_opA
  rw [ht, hb, h, h2, h3]
  rfl
theorem m_fst_no (h : (m_tst kn && bg) = false ∨ (g_o kd vl 23 k = false ∧ g_s kd vl 91 k = false ∧ g_o kd vl 24 k = false)) : m_fst kd vl kn bg k = false := by
  unfold m_fst
  rcases h with h | ⟨h1, h2, h3⟩
  · rw [h]; rfl
  · rw [h1, h2, h3]; cases (m_tst kn && bg) <;> rfl
theorem m_opd_b (h : m_fst kd vl kn bg k = false) : m_opd kd vl w kn ph bg nt R o k = m_opB kd vl w kn ph nt R o k := by
  unfold m_opd
  rw [h]
  rfl
theorem m_opd_par (hf : m_fst kd vl kn bg k = false) (h : g_s kd vl 40 k = true) : m_opd kd vl w kn ph bg nt R o k = m_push kn ph nt R o (k + 1) 2 := by
  rw [m_opd_b hf]
  unfold m_opB
  rw [if_pos h]
theorem g_so_o {c d : Int} (h : g_o kd vl c k = true) : g_s kd vl d k = false := by
  cases q : g_s kd vl d k with
  | false => rfl
  | true => have b := g_s_iff.mp q; have a := g_o_iff.mp h; omega
theorem g_oo {c d : Int} (h : g_o kd vl c k = true) (hd : c ≠ d) : g_o kd vl d k = false := by
  cases q : g_o kd vl d k with
  | false => rfl
  | true => have b := g_o_iff.mp q; have a := g_o_iff.mp h; omega
theorem g_on {c : Int} (h : g_o kd vl c k = true) : g_n kd k = false := by
  cases q : g_n kd k with
  | false => rfl
  | true => have b := g_n_iff.mp q; have a := g_o_iff.mp h; omega
theorem g_ns {d : Int} (h : g_n kd k = true) : g_s kd vl d k = false := by
  cases q : g_s kd vl d k with
  | false => rfl
  | true => have b := g_s_iff.mp q; have a := g_n_iff.mp h; omega
theorem g_no {d : Int} (h : g_n kd k = true) : g_o kd vl d k = false := by
  cases q : g_o kd vl d k with
  | false => rfl
  | true => have b := g_o_iff.mp q; have a := g_n_iff.mp h; omega
theorem m_opd_if (hf : m_fst kd vl kn bg k = false) (h : g_o kd vl 20 k = true) : m_opd kd vl w kn ph bg nt R o k = if g_s kd vl 40 (k + 1) then m_push kn ph nt R o (k + 2) 6 else m_bad := by
  rw [m_opd_b hf]
  unfold m_opB
  rw [g_so_o h, h]
  rfl
theorem m_opd_mm (hf : m_fst kd vl kn bg k = false) (h : g_o kd vl 25 k = true ∨ g_o kd vl 26 k = true) : m_opd kd vl w kn ph bg nt R o k = if g_s kd vl 40 (k + 1) then m_push kn ph nt R o (k + 2) 3 else m_bad := by
  rw [m_opd_b hf]
  unfold m_opB
  rcases h with h | h
  · rw [g_so_o h, g_oo (d := 20) h (by decide), h]; rfl
  · rw [g_so_o h, g_oo (d := 20) h (by decide), h, Bool.or_true]; rfl
theorem m_opd_at (hf : m_fst kd vl kn bg k = false) (h1 : g_s kd vl 40 k = false) (h2 : g_o kd vl 20 k = false) (h3 : g_o kd vl 25 k = false) (h4 : g_o kd vl 26 k = false) (h : g_n kd k = true ∨ g_fw kd vl w k = true) : m_opd kd vl w kn ph bg nt R o k = (0, (kn, ph, false, nt) :: R, o, k + 1, true) := by
  rw [m_opd_b hf]
  unfold m_opB
  rw [h1, h2, h3, h4]
  have e : (g_n kd k || g_fw kd vl w k) = true := by rcases h with h | h <;> rw [h] <;> simp
  rw [e]
  rfl
theorem m_opd_no (hf : m_fst kd vl kn bg k = false) (h1 : g_s kd vl 40 k = false) (h2 : g_o kd vl 20 k = false) (h3 : g_o kd vl 25 k = false) (h4 : g_o kd vl 26 k = false) (h : g_n kd k = false ∧ g_fw kd vl w k = false) : m_opd kd vl w kn ph bg nt R o k = m_bad := by
  rw [m_opd_b hf]
  unfold m_opB
  rw [h1, h2, h3, h4, h.1, h.2]
  rfl
theorem g_fw_5 (h : (kd k).toInt = 5) : g_fw kd vl w k = false := by
  cases q : g_fw kd vl w k with
  | false => rfl
  | true => have a := (g_fw_iff.mp q).1; omega
theorem g_n_5 (h : (kd k).toInt = 5) : g_n kd k = false := by
  cases q : g_n kd k with
  | false => rfl
  | true => have a := g_n_iff.mp q; omega
theorem m_opd_5 (h : (kd k).toInt = 5) : m_opd kd vl w kn ph bg nt R o k = m_bad := m_opd_no (m_fst_no (Or.inr ⟨g_o_5 h, g_s_5 h, g_o_5 h⟩)) (g_s_5 h) (g_o_5 h) (g_o_5 h) (g_o_5 h) ⟨g_n_5 h, g_fw_5 h⟩
theorem m_mm_bad {q : Int} (h : g_s kd vl 40 (k + 1) = false ∨ o = 7) : (if g_s kd vl 40 (k + 1) then m_push kn ph nt R o (k + 2) q else m_bad) = m_bad := by
  rcases h with h | h
  · rw [h]; rfl
  · unfold m_push
    rw [if_pos h]
    split <;> rfl
/-- which of a SUM's words it is -/
def SRT (kd vl : Nat → Int32) (k : Nat) (x : Int) : Prop := (x = 0 → g_n kd k = true) ∧ (x = 1 → g_o kd vl 5 k = true) ∧ (x = 2 → g_o kd vl 15 k = true) ∧ (x = 3 → g_o kd vl 16 k = true) ∧ (x = 4 → g_o kd vl 17 k = true) ∧ (x = 5 → g_o kd vl 18 k = true) ∧ (x = 6 → g_o kd vl 19 k = true) ∧ (x = -1 → g_n kd k = false ∧ g_o kd vl 5 k = false ∧ g_o kd vl 15 k = false ∧ g_o kd vl 16 k = false ∧ g_o kd vl 17 k = false ∧ g_o kd vl 18 k = false ∧ g_o kd vl 19 k = false)
theorem SRT.n (h : g_n kd k = true) (hx : x = 0) : SRT kd vl k x := ⟨fun _ => h, fun q => absurd q (by omega), fun q => absurd q (by omega), fun q => absurd q (by omega), fun q => absurd q (by omega), fun q => absurd q (by omega), fun q => absurd q (by omega), fun q => absurd q (by omega)⟩
theorem SRT.k1 (h : g_o kd vl 5 k = true) (hx : x = 1) : SRT kd vl k x := ⟨fun q => absurd q (by omega), fun _ => h, fun q => absurd q (by omega), fun q => absurd q (by omega), fun q => absurd q (by omega), fun q => absurd q (by omega), fun q => absurd q (by omega), fun q => absurd q (by omega)⟩
theorem SRT.k2 (h : g_o kd vl 15 k = true) (hx : x = 2) : SRT kd vl k x := ⟨fun q => absurd q (by omega), fun q => absurd q (by omega), fun _ => h, fun q => absurd q (by omega), fun q => absurd q (by omega), fun q => absurd q (by omega), fun q => absurd q (by omega), fun q => absurd q (by omega)⟩
theorem SRT.k3 (h : g_o kd vl 16 k = true) (hx : x = 3) : SRT kd vl k x := ⟨fun q => absurd q (by omega), fun q => absurd q (by omega), fun q => absurd q (by omega), fun _ => h, fun q => absurd q (by omega), fun q => absurd q (by omega), fun q => absurd q (by omega), fun q => absurd q (by omega)⟩
theorem SRT.k4 (h : g_o kd vl 17 k = true) (hx : x = 4) : SRT kd vl k x := ⟨fun q => absurd q (by omega), fun q => absurd q (by omega), fun q => absurd q (by omega), fun q => absurd q (by omega), fun _ => h, fun q => absurd q (by omega), fun q => absurd q (by omega), fun q => absurd q (by omega)⟩
theorem SRT.k5 (h : g_o kd vl 18 k = true) (hx : x = 5) : SRT kd vl k x := ⟨fun q => absurd q (by omega), fun q => absurd q (by omega), fun q => absurd q (by omega), fun q => absurd q (by omega), fun q => absurd q (by omega), fun _ => h, fun q => absurd q (by omega), fun q => absurd q (by omega)⟩
theorem SRT.k6 (h : g_o kd vl 19 k = true) (hx : x = 6) : SRT kd vl k x := ⟨fun q => absurd q (by omega), fun q => absurd q (by omega), fun q => absurd q (by omega), fun q => absurd q (by omega), fun q => absurd q (by omega), fun q => absurd q (by omega), fun _ => h, fun q => absurd q (by omega)⟩
theorem SRT.no (h0 : g_n kd k = false) (h1 : g_o kd vl 5 k = false) (h2 : g_o kd vl 15 k = false) (h3 : g_o kd vl 16 k = false) (h4 : g_o kd vl 17 k = false) (h5 : g_o kd vl 18 k = false) (h6 : g_o kd vl 19 k = false) (hx : x = -1) : SRT kd vl k x := ⟨fun q => absurd q (by omega), fun q => absurd q (by omega), fun q => absurd q (by omega), fun q => absurd q (by omega), fun q => absurd q (by omega), fun q => absurd q (by omega), fun q => absurd q (by omega), fun _ => ⟨h0, h1, h2, h3, h4, h5, h6⟩⟩
theorem SRT.good (h : SRT kd vl k x) (hx : (0 ≤ x ∧ x ≤ 3) ∨ (x = 4 ∧ w = 0) ∨ ((x = 5 ∨ x = 6) ∧ w ≠ 0)) : g_n kd k = true ∨ g_fw kd vl w k = true := by
  obtain ⟨a0, a1, a2, a3, a4, a5, a6, -⟩ := h
  have hc : x = 0 ∨ x = 1 ∨ x = 2 ∨ x = 3 ∨ (x = 4 ∧ w = 0) ∨ (x = 5 ∧ w ≠ 0) ∨ (x = 6 ∧ w ≠ 0) := by omega
  rcases hc with q | q | q | q | ⟨q, z⟩ | ⟨q, z⟩ | ⟨q, z⟩
  · exact Or.inl (a0 q)
  · exact Or.inr (by unfold g_fw; rw [a1 q]; simp)
  · exact Or.inr (by unfold g_fw; rw [a2 q]; simp)
  · exact Or.inr (by unfold g_fw; rw [a3 q]; simp)
  · exact Or.inr (by unfold g_fw; rw [a4 q]; simp [z])
  · exact Or.inr (by unfold g_fw; rw [a5 q]; simp [z])
  · exact Or.inr (by unfold g_fw; rw [a6 q]; simp [z])
theorem SRT.bad (h : SRT kd vl k x) (hx : x = -1 ∨ (x = 4 ∧ w ≠ 0) ∨ ((x = 5 ∨ x = 6) ∧ w = 0)) : g_n kd k = false ∧ g_fw kd vl w k = false := by
  obtain ⟨a0, a1, a2, a3, a4, a5, a6, a7⟩ := h
  have hc : x = -1 ∨ (x = 4 ∧ w ≠ 0) ∨ (x = 5 ∧ w = 0) ∨ (x = 6 ∧ w = 0) := by omega
  rcases hc with q | ⟨q, z⟩ | ⟨q, z⟩ | ⟨q, z⟩
  · obtain ⟨b0, b1, b2, b3, b4, b5, b6⟩ := a7 q
    exact ⟨b0, by unfold g_fw; rw [b1, b2, b3, b4, b5, b6]; simp⟩
  · have h := a4 q
    exact ⟨g_on h, by unfold g_fw; rw [g_oo (d := 5) h (by decide), g_oo (d := 15) h (by decide), g_oo (d := 16) h (by decide), g_oo (d := 18) h (by decide), g_oo (d := 19) h (by decide)]; simp [z]⟩
  · have h := a5 q
    exact ⟨g_on h, by unfold g_fw; rw [g_oo (d := 5) h (by decide), g_oo (d := 15) h (by decide), g_oo (d := 16) h (by decide), g_oo (d := 17) h (by decide)]; simp [z]⟩
  · have h := a6 q
    exact ⟨g_on h, by unfold g_fw; rw [g_oo (d := 5) h (by decide), g_oo (d := 15) h (by decide), g_oo (d := 16) h (by decide), g_oo (d := 17) h (by decide)]; simp [z]⟩
theorem m_tst_iff : m_tst kn = true ↔ (kn = 1 ∨ kn = 5 ∨ kn = 6) := by
  unfold m_tst
  simp only [Bool.or_eq_true, decide_eq_true_eq]
  omega
theorem m_tst_f (h : ¬ (kn = 1 ∨ kn = 5 ∨ kn = 6)) : m_tst kn = false := by
  cases q : m_tst kn with
  | false => rfl
  | true => exact absurd (m_tst_iff.mp q) h
/-! goesOn -/
theorem g_so_f (h1 : g_s kd vl 43 k = false) (h2 : g_s kd vl 45 k = false) : g_so kd vl k = false := by unfold g_so; rw [h1, h2]; rfl
theorem g_po_f (h1 : g_s kd vl 42 k = false) (h2 : g_s kd vl 47 k = false) (h3 : g_s kd vl 37 k = false) : g_po kd vl k = false := by unfold g_po; rw [h1, h2, h3]; rfl
theorem g_co_f (h1 : g_s kd vl 60 k = false) (h2 : g_s kd vl 62 k = false) (h3 : g_s kd vl 61 k = false) : g_co kd vl k = false := by unfold g_co; rw [h1, h2, h3]; rfl
theorem g_co_w {c : Int} (h : g_o kd vl c k = true) : g_co kd vl k = false := g_co_f (g_so_o h) (g_so_o h) (g_so_o h)
theorem g_sp5 (h : (kd k).toInt = 5) : g_so kd vl k = false ∧ g_po kd vl k = false ∧ g_co kd vl k = false := ⟨g_so_f (g_s_5 h) (g_s_5 h), g_po_f (g_s_5 h) (g_s_5 h) (g_s_5 h), g_co_f (g_s_5 h) (g_s_5 h) (g_s_5 h)⟩
theorem g_so_1 (h : g_s kd vl 43 k = true) : g_so kd vl k = true ∨ g_po kd vl k = true := Or.inl (by unfold g_so; rw [h]; rfl)
theorem g_so_2 (h : g_s kd vl 45 k = true) : g_so kd vl k = true ∨ g_po kd vl k = true := Or.inl (by unfold g_so; rw [h, Bool.or_true])
theorem g_po_1 (h : g_s kd vl 42 k = true) : g_so kd vl k = true ∨ g_po kd vl k = true := Or.inr (by unfold g_po; rw [h]; rfl)
theorem g_po_2 (h : g_s kd vl 47 k = true) : g_so kd vl k = true ∨ g_po kd vl k = true := Or.inr (by unfold g_po; rw [h, Bool.or_true]; rfl)
theorem g_po_3 (h : g_s kd vl 37 k = true) : g_so kd vl k = true ∨ g_po kd vl k = true := Or.inr (by unfold g_po; rw [h, Bool.or_true])
theorem g_co_1 (h : g_s kd vl 60 k = true) : g_co kd vl k = true := by unfold g_co; rw [h]; rfl
theorem g_co_2 (h : g_s kd vl 62 k = true) : g_co kd vl k = true := by unfold g_co; rw [h, Bool.or_true]; rfl
theorem g_co_3 (h : g_s kd vl 61 k = true) : g_co kd vl k = true := by unfold g_co; rw [h, Bool.or_true]
theorem m_go_cmp (ht : m_tst kn = true) (h0 : ph = 0) (h : g_so kd vl k = false ∧ g_po kd vl k = false) (hc : g_co kd vl k = true) : m_go kd vl kn ph bg nt R o k = (0, (kn, 1, bg, nt) :: R, o, k + 1, false) := by
  rw [h0, m_go_co ht h, if_pos hc]
/-- where nothing goes on: no operator, no comparing sign where one must stand, no end of its own -/
theorem m_go_bad (h : ph < 2 → g_so kd vl k = false ∧ g_po kd vl k = false) (h2 : (m_tst kn = true ∧ ph = 0 ∧ g_co kd vl k = false) ∨ (2 ≤ kn ∧ (m_tst kn = true → ph = 0 → g_co kd vl k = false) ∧ (m_tst kn = true → g_o kd vl 22 k = false ∧ g_o kd vl 21 k = false) ∧ ((kn = 3 ∨ kn = 6) → g_s kd vl 44 k = false) ∧ (kn = 5 → g_s kd vl 93 k = false) ∧ (kn ≠ 3 → kn ≠ 6 → kn ≠ 5 → g_s kd vl 41 k = false))) : m_go kd vl kn ph bg nt R o k = m_bad := by
  unfold m_go
  rw [m_noop h]
  rcases h2 with ⟨a, b, c⟩ | ⟨a, b, c, d, e, f⟩
  · rw [a, b, c]; rfl
  · by_cases t : m_tst kn = true
    · by_cases z : ph = 0
      · rw [t, z, b t z]; rfl
      · rw [t, (c t).1, (c t).2]
        rw [if_neg (by decide), if_neg (by simp [z]), if_neg (by decide), if_neg (by omega)]
        by_cases q : kn = 3 ∨ kn = 6
        · rw [if_pos q, d q]; rfl
        · rw [if_neg q]
          by_cases q5 : kn = 5
          · rw [if_pos q5, e q5]; rfl
          · rw [if_neg q5, f (by omega) (by omega) q5]; rfl
    · have t : m_tst kn = false := by cases q : m_tst kn with
        | false => rfl
        | true => exact absurd q t
      rw [t]
      rw [if_neg (by decide), if_neg (by simp), if_neg (by simp), if_neg (by omega)]
      by_cases q : kn = 3 ∨ kn = 6
      · rw [if_pos q, d q]; rfl
      · rw [if_neg q]
        by_cases q5 : kn = 5
        · rw [if_pos q5, e q5]; rfl
        · rw [if_neg q5, f (by omega) (by omega) q5]; rfl
/-- a rule's own frame ends -/
theorem m_go_end (h : ph < 2 → g_so kd vl k = false ∧ g_po kd vl k = false) (hk : kn = 0 ∨ (kn = 1 ∧ ph ≠ 0 ∧ g_o kd vl 22 k = false ∧ g_o kd vl 21 k = false)) : m_go kd vl kn ph bg nt R o k = (1, (kn, ph, bg, 0) :: R, o - nt, k, true) := by
  rcases hk with rfl | ⟨rfl, h0, h1, h2⟩
  · exact m_go_0 h
  · exact m_go_1 h h0 h1 h2
theorem m_go_com (h : ph < 2 → g_so kd vl k = false ∧ g_po kd vl k = false) (hk : kn = 3 ∨ (kn = 6 ∧ ph ≠ 0 ∧ g_o kd vl 22 k = false ∧ g_o kd vl 21 k = false)) (hs : g_s kd vl 44 k = true) : m_go kd vl kn ph bg nt R o k = (0, ((if kn = 3 then 4 else 3), 0, bg, 0) :: R, o - nt, k + 1, false) := by
  rcases hk with rfl | ⟨rfl, h0, h1, h2⟩
  · rw [m_go_3 h, if_pos hs]; rfl
  · rw [m_go_6 h h0 h1 h2, if_pos hs]; rfl
theorem m_go_cls (h : ph < 2 → g_so kd vl k = false ∧ g_po kd vl k = false) (hk : ((kn = 2 ∨ kn = 4) ∧ g_s kd vl 41 k = true) ∨ (kn = 5 ∧ ph ≠ 0 ∧ g_o kd vl 22 k = false ∧ g_o kd vl 21 k = false ∧ g_s kd vl 93 k = true)) : m_go kd vl kn ph bg nt R o k = m_pop kn nt R o k := by
  rcases hk with ⟨rfl | rfl, hs⟩ | ⟨rfl, h0, h1, h2, hs⟩
  · rw [m_go_2 h, if_pos hs]
  · rw [m_go_4 h, if_pos hs]
  · rw [m_go_5 h h0 h1 h2, if_pos hs]
end OL
section OK
variable {tb : Nat → Int32} {n : Nat} {w : Int} {S S1 S' : dg_S} {WF : List (Nat × Nat)} {WA : List Nat} {sa fk y8 y4 r dp on om t : Int32} {kn ph kn' ph' : Int} {bg bg' q : Bool} {nt nt' o o' k' kk : Nat} {R R' : List m_F} {s0 : m_S}
/-- what an operand's reading comes to -/
def OPK (tb : Nat → Int32) (n : Nat) (w : Int) (S S' : dg_S) (r : Int32) : Prop := ∀ sa fk f a : Int32, S.1 0 4 = .int sa → S.1 0 8 = .int fk → fk.toInt = 0 → S'.1 0 8 = .int f → S'.1 0 4 = .int a → (f.toInt = 0 → m_st (T_kd tb n) (T_vl tb n) w (MSv S (t_ix tb n sa.toNatClampNeg) false) = MSv S' (t_ix tb n a.toNatClampNeg) (decide (r.toInt = 1))) ∧ (f.toInt ≠ 0 → m_st (T_kd tb n) (T_vl tb n) w (MSv S (t_ix tb n sa.toNatClampNeg) false) = m_bad)
theorem MSv.keep {k : Nat} (m : dg_sm shM WF WA S S1) (h1 : (0, 42) ∉ WF) (h2 : (0, 43) ∉ WF) (h3 : (0, 45) ∉ WF) (k2 : 22 ∉ WA) (k3 : 23 ∉ WA) (k4 : 24 ∉ WA) (k6 : 26 ∉ WA) (k7 : 27 ∉ WA) : MSv S k q = MSv S1 k q := by
  unfold MSv MSL
  rw [fI_sm m h1, fI_sm m h2, fI_sm m h3, (m.2 22 _ sM_22 k2).1, (m.2 23 _ sM_23 k3).1, (m.2 24 _ sM_24 k4).1, (m.2 26 _ sM_26 k6).1, (m.2 27 _ sM_27 k7).1]
theorem OPK.no (f4 : S.1 0 4 = .int sa) (f8 : S.1 0 8 = .int fk) (p8 : S'.1 0 8 = .int y8) (h8 : y8.toInt ≠ 0) (e : fk.toInt = 0 → m_st (T_kd tb n) (T_vl tb n) w (MSv S (t_ix tb n sa.toNatClampNeg) false) = m_bad) : OPK tb n w S S' r := by
  intro sa' fk' f a q1 q2 q3 q4 q5
  cases f4.symm.trans q1
  cases f8.symm.trans q2
  cases p8.symm.trans q4
  exact ⟨fun z => absurd z h8, fun _ => e q3⟩
theorem OPK.ok (f4 : S.1 0 4 = .int sa) (p8 : S'.1 0 8 = .int y8) (p4 : S'.1 0 4 = .int y4) (h8 : y8.toInt = 0) (hM : MSv S (t_ix tb n sa.toNatClampNeg) false = s0) (T : TFM kn ph bg nt R o S') (e : m_st (T_kd tb n) (T_vl tb n) w s0 = (0, (kn, ph, bg, nt) :: R, o, k', q)) (hk : t_ix tb n y4.toNatClampNeg = k') (hr : decide (r.toInt = 1) = q) : OPK tb n w S S' r := by
  intro sa' fk' f a q1 q2 q3 q4 q5
  cases f4.symm.trans q1
  cases p8.symm.trans q4
  cases p4.symm.trans q5
  exact ⟨fun _ => by rw [hM, e, T.ms, hk, hr], fun z => absurd h8 z⟩
theorem MS5 {op : Int} {k : Nat} (P : PSM S op) (f1 : S.1 0 42 = .int dp) (f2 : S.1 0 43 = .int on) (f3 : S.1 0 45 = .int om) (h : (T_kd tb n k).toInt = 5) : m_st (T_kd tb n) (T_vl tb n) w (MSv S k false) = m_bad := by
  have dd := PSM.dims P f1 f2 f3
  have e1 := dk_clN dp
  obtain ⟨nt, R, T⟩ := TFM.start (fx := Int32.ofInt (dp.toInt - 1)) P f1 f2 f3 (by rw [Int32.toInt_ofInt_of_le (by omega) (by omega)]) rfl rfl
  rw [T.ms, m_st_f]
  exact m_opd_5 h
/-- behind frames() -/
theorem OPK.fr (f4 : S.1 0 4 = .int sa) (p8 : S'.1 0 8 = .int y8) (p4 : S'.1 0 4 = .int y4) (hM : MSv S (t_ix tb n sa.toNatClampNeg) false = s0) (T : TFM kn ph false nt R o S1) (f1 : S1.1 0 42 = .int dp) (f2 : S1.1 0 43 = .int on) (f3 : S1.1 0 45 = .int om) (hd0 : 0 ≤ dp.toInt) (ho0 : 0 ≤ on.toInt) (m : dg_sm shM WF WA S1 S') (h45 : (0, 45) ∉ WF) (k7 : 27 ∉ WA) (hF : ∀ k9 : Int32, S'.1 0 8 = .int k9 → k9.toInt = 0 → FRM S1 S' t) (e : m_st (T_kd tb n) (T_vl tb n) w s0 = m_push kn ph nt R o kk t.toInt) (hk : y8.toInt = 0 → t_ix tb n y4.toNatClampNeg = kk) (h7 : y8.toInt ≠ 0 → o = 7) (hr : r.toInt = 0) : OPK tb n w S S' r := by
  intro sa' fk' f a q1 q2 q3 q4 q5
  cases f4.symm.trans q1
  cases p8.symm.trans q4
  cases p4.symm.trans q5
  refine ⟨fun z => ?_, fun z => ?_⟩
  · have F := hF _ p8 z
    have T2 := T.frm f1 f2 f3 hd0 ho0 m h45 k7 F
    have h6 := (F.2 on f2).1
    have e1 := dk_clN on
    have ho := T.2.1
    rw [fI_at f2] at ho
    rw [hM, e, T2.ms, hk z, show decide (r.toInt = 1) = false from by rw [hr]; rfl]
    unfold m_push
    rw [if_neg (by omega)]
  · rw [hM, e]
    unfold m_push
    rw [if_pos (h7 z)]
/-- what goesOn() comes to -/
def GOK (tb : Nat → Int32) (n : Nat) (w : Int) (S S' : dg_S) (r : Int32) : Prop := ∀ sa fk f a x : Int32, S.1 0 4 = .int sa → S.1 0 8 = .int fk → fk.toInt = 0 → S'.1 0 8 = .int f → S'.1 0 4 = .int a → S'.1 0 46 = .int x → (f.toInt = 0 → r.toInt = 1 → m_st (T_kd tb n) (T_vl tb n) w (MSv S (t_ix tb n sa.toNatClampNeg) true) = MSv S' (t_ix tb n a.toNatClampNeg) (decide (x.toInt = 1))) ∧ (f.toInt = 0 → r.toInt ≠ 1 → ∃ (L : List m_F) (o : Nat), m_st (T_kd tb n) (T_vl tb n) w (MSv S (t_ix tb n sa.toNatClampNeg) true) = (1, L, o, t_ix tb n a.toNatClampNeg, true)) ∧ (f.toInt ≠ 0 → m_st (T_kd tb n) (T_vl tb n) w (MSv S (t_ix tb n sa.toNatClampNeg) true) = m_bad ∨ ∃ (L : List m_F) (o k : Nat), m_st (T_kd tb n) (T_vl tb n) w (MSv S (t_ix tb n sa.toNatClampNeg) true) = (1, L, o, k, true) ∧ (T_kd tb n k).toInt = 5)
theorem GOK.no (f4 : S.1 0 4 = .int sa) (f8 : S.1 0 8 = .int fk) (p8 : S'.1 0 8 = .int y8) (h8 : y8.toInt ≠ 0) (e : fk.toInt = 0 → m_st (T_kd tb n) (T_vl tb n) w (MSv S (t_ix tb n sa.toNatClampNeg) true) = m_bad ∨ ∃ (L : List m_F) (o k : Nat), m_st (T_kd tb n) (T_vl tb n) w (MSv S (t_ix tb n sa.toNatClampNeg) true) = (1, L, o, k, true) ∧ (T_kd tb n k).toInt = 5) : GOK tb n w S S' r := by
  intro sa' fk' f a x q1 q2 q3 q4 q5 q6
  cases f4.symm.trans q1
  cases f8.symm.trans q2
  cases p8.symm.trans q4
  exact ⟨fun z => absurd z h8, fun z => absurd z h8, fun _ => e q3⟩
theorem GOK.ok {x : Int32} (f4 : S.1 0 4 = .int sa) (p8 : S'.1 0 8 = .int y8) (p4 : S'.1 0 4 = .int y4) (p46 : S'.1 0 46 = .int x) (h8 : y8.toInt = 0) (hM : MSv S (t_ix tb n sa.toNatClampNeg) true = s0) (T : TFM kn ph bg nt R o S') (e : m_st (T_kd tb n) (T_vl tb n) w s0 = (0, (kn, ph, bg, nt) :: R, o, k', q)) (hk : t_ix tb n y4.toNatClampNeg = k') (hr : r.toInt = 1) (hx : decide (x.toInt = 1) = q) : GOK tb n w S S' r := by
  intro sa' fk' f a x' q1 q2 q3 q4 q5 q6
  cases f4.symm.trans q1
  cases p8.symm.trans q4
  cases p4.symm.trans q5
  cases p46.symm.trans q6
  exact ⟨fun _ _ => by rw [hM, e, T.ms, hk, hx], fun _ z => absurd hr z, fun z => absurd h8 z⟩
theorem GOK.fin (f4 : S.1 0 4 = .int sa) (p8 : S'.1 0 8 = .int y8) (p4 : S'.1 0 4 = .int y4) (h8 : y8.toInt = 0) (hM : MSv S (t_ix tb n sa.toNatClampNeg) true = s0) (e : m_st (T_kd tb n) (T_vl tb n) w s0 = (1, R, o, k', true)) (hk : t_ix tb n y4.toNatClampNeg = k') (hr : r.toInt ≠ 1) : GOK tb n w S S' r := by
  intro sa' fk' f a x' q1 q2 q3 q4 q5 q6
  cases f4.symm.trans q1
  cases p8.symm.trans q4
  cases p4.symm.trans q5
  exact ⟨fun _ z => absurd z hr, fun _ _ => ⟨R, o, by rw [hM, e, hk]⟩, fun z => absurd h8 z⟩
theorem GO5 {op : Int} {k : Nat} (P : PSM S op) (f1 : S.1 0 42 = .int dp) (f2 : S.1 0 43 = .int on) (f3 : S.1 0 45 = .int om) (h : (T_kd tb n k).toInt = 5) : m_st (T_kd tb n) (T_vl tb n) w (MSv S k true) = m_bad ∨ ∃ (L : List m_F) (o k' : Nat), m_st (T_kd tb n) (T_vl tb n) w (MSv S k true) = (1, L, o, k', true) ∧ (T_kd tb n k').toInt = 5 := by
  have dd := PSM.dims P f1 f2 f3
  have e1 := dk_clN dp
  obtain ⟨p1, -⟩ := P dp on om f1 f2 f3
  obtain ⟨b1, b2, b3, b4, b5⟩ := p1.top
  obtain ⟨nt, R, T⟩ := TFM.start (fx := Int32.ofInt (dp.toInt - 1)) P f1 f2 f3 (by rw [Int32.toInt_ofInt_of_le (by omega) (by omega)]) rfl rfl
  have ek : (Int32.ofInt (dp.toInt - 1)).toNatClampNeg = dp.toNatClampNeg - 1 := by rw [dk_clN, Int32.toInt_ofInt_of_le (by omega) (by omega)]; omega
  rw [ek] at T
  obtain ⟨c1, c2, c3, c4, c5⟩ := b5
  rw [T.ms, m_st_t]
  have z := g_sp5 (vl := T_vl tb n) h
  by_cases hb : m_tst (S.2.1 22 (dp.toNatClampNeg - 1)).toInt = true ∧ (S.2.1 23 (dp.toNatClampNeg - 1)).toInt = 0
  · exact Or.inl (m_go_bad (fun _ => ⟨z.1, z.2.1⟩) (Or.inl ⟨hb.1, hb.2, z.2.2⟩))
  · by_cases h2 : 2 ≤ (S.2.1 22 (dp.toNatClampNeg - 1)).toInt
    · exact Or.inl (m_go_bad (fun _ => ⟨z.1, z.2.1⟩) (Or.inr ⟨h2, fun _ _ => z.2.2, fun _ => ⟨g_o_5 h, g_o_5 h⟩, fun _ => g_s_5 h, fun _ => g_s_5 h, fun _ _ _ => g_s_5 h⟩))
    · refine Or.inr ⟨_, _, k, m_go_end (fun _ => ⟨z.1, z.2.1⟩) ?_, h⟩
      by_cases q0 : (S.2.1 22 (dp.toNatClampNeg - 1)).toInt = 0
      · exact Or.inl q0
      · have q1 : (S.2.1 22 (dp.toNatClampNeg - 1)).toInt = 1 := by omega
        exact Or.inr ⟨q1, fun q2 => hb ⟨by rw [q1]; decide, q2⟩, g_o_5 h, g_o_5 h⟩
/-! a rule is read, step by step -/
def m_s0 (w : Int) (k : Nat) : m_S := (0, [(if w = 1 then 1 else 0, 0, true, 0)], 0, k, false)
/-- while more: the machine is where the state is; behind: what is taken -/
def RDG (tb : Nat → Int32) (n : Nat) (w : Int) (k0 : Nat) (S : dg_S) (mo f a x : Int32) : Prop := (mo.toInt = 1 → m_R (T_kd tb n) (T_vl tb n) w (m_s0 w k0) (MSv S (t_ix tb n a.toNatClampNeg) (decide (x.toInt = 1)))) ∧ (mo.toInt = 0 → f.toInt = 0 → ∃ (L : List m_F) (o : Nat), m_R (T_kd tb n) (T_vl tb n) w (m_s0 w k0) (1, L, o, t_ix tb n a.toNatClampNeg, true)) ∧ (mo.toInt = 0 → f.toInt ≠ 0 → m_R (T_kd tb n) (T_vl tb n) w (m_s0 w k0) m_bad ∨ ∃ (L : List m_F) (o k : Nat), m_R (T_kd tb n) (T_vl tb n) w (m_s0 w k0) (1, L, o, k, true) ∧ (T_kd tb n k).toInt = 5)
theorem y_ruleT {kd vl : Nat → Int32} {N k : Nat} (hN : ∀ k, N ≤ k → (kd k).toInt = 0) (hN2 : N ≤ 1600) : m_T kd vl w (y_rule kd vl w k) (m_s0 w k) (fun k' t => ∃ L : List m_F, t = (1, L, 0, k', true)) := by
  unfold y_rule m_s0
  by_cases h : w = 1
  · rw [if_pos h, if_pos h]
    exact (m_rule1 hN hN2 k).imp (fun k' t _ p => by obtain ⟨ph, rfl⟩ := p; exact ⟨_, rfl⟩)
  · rw [if_neg h, if_neg h]
    exact (m_rule0 hN hN2 k).imp (fun k' t _ p => ⟨_, p⟩)
theorem m_st_1 {kd vl : Nat → Int32} {L : List m_F} {o k : Nat} {b : Bool} : m_st kd vl w (1, L, o, k, b) = (1, L, o, k, b) := rfl
theorem m_st_2 {kd vl : Nat → Int32} : m_st kd vl w m_bad = m_bad := rfl
theorem y_rule_y {kd vl : Nat → Int32} {N k k' : Nat} {L : List m_F} {o : Nat} (hN : ∀ k, N ≤ k → (kd k).toInt = 0) (hN2 : N ≤ 1600) (h : m_R kd vl w (m_s0 w k) (1, L, o, k', true)) : y_rule kd vl w k = some k' := by
  have T := y_ruleT (vl := vl) (w := w) (k := k) hN hN2
  cases e : y_rule kd vl w k with
  | none =>
    have d := m_R.det h (T.1 e) rfl rfl
    have d2 := congrArg Prod.fst d
    exact absurd (show (1 : Nat) = 2 from d2) (by decide)
  | some j =>
    obtain ⟨t, r, L', rfl⟩ := T.2 j e
    have d := m_R.det h r rfl rfl
    have d2 : k' = j := congrArg (fun s : m_S => s.2.2.2.1) d
    rw [d2]
theorem y_rule_n {kd vl : Nat → Int32} {N k : Nat} (hN : ∀ k, N ≤ k → (kd k).toInt = 0) (hN2 : N ≤ 1600) (h : m_R kd vl w (m_s0 w k) m_bad) : y_rule kd vl w k = none := by
  have T := y_ruleT (vl := vl) (w := w) (k := k) hN hN2
  cases e : y_rule kd vl w k with
  | none => rfl
  | some j =>
    obtain ⟨t, r, L', rfl⟩ := T.2 j e
    have d := m_R.det h r rfl rfl
    have d2 := congrArg Prod.fst d
    exact absurd (show (2 : Nat) = 1 from d2) (by decide)
theorem RDG.rok {f a x mo : Int32} {k0 : Nat} (hn : n ≤ 1600) (h : fk.toInt = 0 → RDG tb n w k0 S' mo f a x) (hm : mo.toInt = 0) (p8 : S'.1 0 8 = .int f) (p4 : S'.1 0 4 = .int a) : ROK tb n fk (y_rule (T_kd tb n) (T_vl tb n) w k0) S' := by
  intro h0 f' a' q8 q4
  cases p8.symm.trans q8
  cases p4.symm.trans q4
  obtain ⟨-, h2, h3⟩ := h h0
  have hN : ∀ k, n ≤ k → (T_kd tb n k).toInt = 0 := fun k hk => T_kd_end hk
  refine ⟨fun z => ?_, fun z => ?_⟩
  · obtain ⟨L, o, r⟩ := h2 hm z
    exact y_rule_y hN hn r
  · rcases h3 hm z with r | ⟨L, o, k, r, e⟩
    · exact Or.inl (y_rule_n hN hn r)
    · exact Or.inr ⟨k, y_rule_y hN hn r, e⟩
theorem RDG.start {f a x mo : Int32} {k0 : Nat} (hm : mo.toInt = 1) (hx : x.toInt = 0) (T : TFM kn 0 true 0 [] 0 S) (hk : kn = if w = 1 then 1 else 0) (ha : t_ix tb n a.toNatClampNeg = k0) : RDG tb n w k0 S mo f a x := by
  refine ⟨fun _ => ?_, fun z => absurd z (by omega), fun z => absurd z (by omega)⟩
  rw [T.ms, ha, show decide (x.toInt = 1) = false from by rw [hx]; rfl, hk]
  exact m_R.rf
theorem RDG.opd {f a x mo f1 a1 x1 mo1 r : Int32} {k0 : Nat} (h : RDG tb n w k0 S mo f a x) (hm : mo.toInt = 1) (hx : x.toInt = 0) (f4 : S.1 0 4 = .int a) (f8 : S.1 0 8 = .int f) (hf : f.toInt = 0) (O : OPK tb n w S S1 r) (p8 : S1.1 0 8 = .int f1) (p4 : S1.1 0 4 = .int a1) (hS : ∀ k q, MSv S' k q = MSv S1 k q) (hx1 : x1.toInt = r.toInt) (hm1 : f1.toInt = 0 → mo1.toInt = 1) (hm2 : f1.toInt ≠ 0 → mo1.toInt = 0) : RDG tb n w k0 S' mo1 f1 a1 x1 := by
  obtain ⟨o1, o2⟩ := O a f f1 a1 f4 f8 hf p8 p4
  have h1 := h.1 hm
  rw [show decide (x.toInt = 1) = false from by rw [hx]; rfl] at h1
  refine ⟨fun z => ?_, fun z z2 => absurd (hm1 z2) (by omega), fun z z2 => Or.inl (h1.tr (m_R.st (o2 z2)))⟩
  have z0 : f1.toInt = 0 := by
    by_cases q9 : f1.toInt = 0
    · exact q9
    · have := hm2 q9; omega
  rw [hS, hx1]
  exact h1.tr (m_R.st (o1 z0))
theorem RDG.go {f a x mo f1 a1 x1 mo1 r : Int32} {k0 : Nat} (h : RDG tb n w k0 S mo f a x) (hm : mo.toInt = 1) (hx : x.toInt = 1) (f4 : S.1 0 4 = .int a) (f8 : S.1 0 8 = .int f) (hf : f.toInt = 0) (O : GOK tb n w S S' r) (p8 : S'.1 0 8 = .int f1) (p4 : S'.1 0 4 = .int a1) (p46 : S'.1 0 46 = .int x1) (hm1 : mo1.toInt = 1 ↔ (r.toInt = 1 ∧ f1.toInt = 0)) : RDG tb n w k0 S' mo1 f1 a1 x1 := by
  obtain ⟨o1, o2, o3⟩ := O a f f1 a1 x1 f4 f8 hf p8 p4 p46
  have h1 := h.1 hm
  rw [show decide (x.toInt = 1) = true from by rw [hx]; rfl] at h1
  refine ⟨fun z => h1.tr (m_R.st (o1 (hm1.mp z).2 (hm1.mp z).1)), fun z z2 => ?_, fun z z2 => ?_⟩
  · obtain ⟨L, o, e⟩ := o2 z2 (fun q9 => by have := hm1.mpr ⟨q9, z2⟩; omega)
    exact ⟨L, o, h1.tr (m_R.st e)⟩
  · rcases o3 z2 with e | ⟨L, o, k, e, e5⟩
    · exact Or.inl (h1.tr (m_R.st e))
    · exact Or.inr ⟨L, o, k, h1.tr (m_R.st e), e5⟩
end OK
