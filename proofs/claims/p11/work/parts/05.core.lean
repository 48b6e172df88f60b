/-! dg_: a region of cells at o, o + 1, ..: its shape (kind, class, length, role) and its state -/
abbrev dg_q : Type := Nat × Nat × Nat × Nat
abbrev dg_S : Type := (Nat → Nat → Value) × (Nat → Nat → Int32) × (Nat → Nat → Int64)
abbrev dg_R : Type := Nat → Nat → Option Nat
def dg_e (g : Nat → ClassId) (o : Nat) (rf : dg_R) (S : dg_S) (i : Nat) (q : dg_q) : va_E :=
  match q.1 with
  | 0 => .inr (q.2.1, (List.range q.2.2.1).map (S.1 i))
  | 1 => .inl (g 0, q.2.2.1, .inl (S.2.1 i))
  | 2 => .inl (g 1, q.2.2.1, .inr (.inl (S.2.2 i)))
  | 3 => .inl (g 2, q.2.2.1, .inl (S.2.1 i))
  | _ => .inl (g q.2.1, q.2.2.1, .inr (.inr (.inr (.inr (fun k => (rf i k).map (o + ·))))))
def dg_w (g : Nat → ClassId) (sh : List dg_q) (o : Nat) (rf : dg_R) (S : dg_S) : va_W := (List.range sh.length).map fun i => (o + i, dg_e g o rf S i (sh.getD i (0, 0, 0, 0)))
theorem dg_w_len {g : Nat → ClassId} {sh : List dg_q} {o : Nat} {rf : dg_R} {S : dg_S} : (dg_w g sh o rf S).length = sh.length := by simp [dg_w]
theorem dg_w_get {g : Nat → ClassId} {sh : List dg_q} {o : Nat} {rf : dg_R} {S : dg_S} {i : Nat} (h : i < sh.length) : (dg_w g sh o rf S)[i]? = some (o + i, dg_e g o rf S i (sh.getD i (0, 0, 0, 0))) := by
  unfold dg_w
  rw [List.getElem?_map, List.getElem?_range h]
  rfl
theorem dg_w_at {g : Nat → ClassId} {sh : List dg_q} {o : Nat} {rf : dg_R} {S : dg_S} {i : Nat} {q : dg_q} (h : sh[i]? = some q) : (dg_w g sh o rf S)[i]? = some (o + i, dg_e g o rf S i q) := by
  have hl := (List.getElem?_eq_some_iff.mp h).1
  rw [dg_w_get hl, List.getD_eq_getElem?_getD, h]
  rfl
theorem dg_w_set {g : Nat → ClassId} {sh : List dg_q} {o : Nat} {rf : dg_R} {S S' : dg_S} {i : Nat} {q : dg_q} (h : sh[i]? = some q) (ho : ∀ j, j ≠ i → ∀ r, dg_e g o rf S' j r = dg_e g o rf S j r) : (dg_w g sh o rf S).set i (o + i, dg_e g o rf S' i q) = dg_w g sh o rf S' := by
  have hl := (List.getElem?_eq_some_iff.mp h).1
  apply List.ext_getElem?
  intro j
  by_cases hj : j = i
  · subst hj
    rw [List.getElem?_set_self (by rw [dg_w_len]; exact hl), dg_w_at h]
  · rw [List.getElem?_set_ne (fun z => hj z.symm)]
    by_cases hjl : j < sh.length
    · rw [dg_w_get hjl, dg_w_get hjl, ho j hj]
    · rw [List.getElem?_eq_none (by rw [dg_w_len]; omega), List.getElem?_eq_none (by rw [dg_w_len]; omega)]
theorem dg_D {g : Nat → ClassId} {sh : List dg_q} {o : Nat} {rf : dg_R} {S : dg_S} {A : Nat → Prop} (h : ∀ i, i < sh.length → A (o + i)) : va_D A (dg_w g sh o rf S) := by
  have key : ∀ (i : Nat) (p : Nat × va_E), (dg_w g sh o rf S)[i]? = some p → i < sh.length ∧ p.1 = o + i := by
    intro i p hp
    have hl : i < sh.length := by
      have := (List.getElem?_eq_some_iff.mp hp).1
      rwa [dg_w_len] at this
    rw [dg_w_get hl] at hp
    exact ⟨hl, by rw [← Option.some.inj hp]⟩
  refine ⟨fun i j p q hp hq he => ?_, fun k q hq => ?_⟩
  · have h1 := (key i p hp).2
    have h2 := (key j q hq).2
    omega
  · rw [(key k q hq).2]
    exact h k (key k q hq).1
/-- which cells a method may change: the region's, and those that it makes -/
def dg_A (o n sz : Nat) : Nat → Prop := fun q => (o ≤ q ∧ q < o + n) ∨ sz ≤ q
theorem dg_A_eq {g : Nat → ClassId} {sh : List dg_q} {o : Nat} {rf : dg_R} {S : dg_S} {sz : Nat} : va_A (dg_w g sh o rf S) sz = dg_A o sh.length sz := by
  funext q
  apply propext
  constructor
  · rintro (⟨k, e, h⟩ | h)
    · have hl := (List.getElem?_eq_some_iff.mp h).1
      rw [dg_w_len] at hl
      rw [dg_w_get hl] at h
      have h1 := congrArg Prod.fst (Option.some.inj h)
      have h2 : o + k = q := h1
      exact Or.inl ⟨by omega, by omega⟩
    · exact Or.inr h
  · rintro (⟨h1, h2⟩ | h)
    · refine Or.inl ⟨q - o, dg_e g o rf S (q - o) (sh.getD (q - o) (0, 0, 0, 0)), ?_⟩
      rw [dg_w_get (by omega), show o + (q - o) = q by omega]
    · exact Or.inr h
/-! changes of a state -/
def dg_uF (S : dg_S) (i k : Nat) (v : Value) : dg_S := (fun a b => if a = i ∧ b = k then v else S.1 a b, S.2)
def dg_uf (S : dg_S) (i : Nat) (r : Nat → Int32) : dg_S := (S.1, fun a => if a = i then r else S.2.1 a, S.2.2)
def dg_ul (S : dg_S) (i : Nat) (r : Nat → Int64) : dg_S := (S.1, S.2.1, fun a => if a = i then r else S.2.2 a)
theorem dg_uF_at {S S1 : dg_S} {i k : Nat} {v : Value} (h : S1 = dg_uF S i k v) : S1.1 i k = v := by subst h; simp [dg_uF]
theorem dg_uF_ne {S S1 : dg_S} {i k a b : Nat} {v : Value} (h : S1 = dg_uF S i k v) (hn : ¬ (a = i ∧ b = k)) : S1.1 a b = S.1 a b := by subst h; simp only [dg_uF]; rw [if_neg hn]
theorem dg_uF_f {S S1 : dg_S} {i k : Nat} {v : Value} (h : S1 = dg_uF S i k v) (a : Nat) : S1.2.1 a = S.2.1 a := by subst h; rfl
theorem dg_uF_l {S S1 : dg_S} {i k : Nat} {v : Value} (h : S1 = dg_uF S i k v) (a : Nat) : S1.2.2 a = S.2.2 a := by subst h; rfl
theorem dg_uf_F {S S1 : dg_S} {i : Nat} {r : Nat → Int32} (h : S1 = dg_uf S i r) (a b : Nat) : S1.1 a b = S.1 a b := by subst h; rfl
theorem dg_uf_at {S S1 : dg_S} {i : Nat} {r : Nat → Int32} (h : S1 = dg_uf S i r) : S1.2.1 i = r := by subst h; simp [dg_uf]
theorem dg_uf_ne {S S1 : dg_S} {i a : Nat} {r : Nat → Int32} (h : S1 = dg_uf S i r) (hn : ¬ a = i) : S1.2.1 a = S.2.1 a := by subst h; simp only [dg_uf]; rw [if_neg hn]
theorem dg_uf_l {S S1 : dg_S} {i : Nat} {r : Nat → Int32} (h : S1 = dg_uf S i r) (a : Nat) : S1.2.2 a = S.2.2 a := by subst h; rfl
theorem dg_ul_F {S S1 : dg_S} {i : Nat} {r : Nat → Int64} (h : S1 = dg_ul S i r) (a b : Nat) : S1.1 a b = S.1 a b := by subst h; rfl
theorem dg_ul_f {S S1 : dg_S} {i : Nat} {r : Nat → Int64} (h : S1 = dg_ul S i r) (a : Nat) : S1.2.1 a = S.2.1 a := by subst h; rfl
theorem dg_ul_at {S S1 : dg_S} {i : Nat} {r : Nat → Int64} (h : S1 = dg_ul S i r) : S1.2.2 i = r := by subst h; simp [dg_ul]
theorem dg_ul_ne {S S1 : dg_S} {i a : Nat} {r : Nat → Int64} (h : S1 = dg_ul S i r) (hn : ¬ a = i) : S1.2.2 a = S.2.2 a := by subst h; simp only [dg_ul]; rw [if_neg hn]
theorem dg_upd_at {f r : Nat → Int32} {k : Nat} {x : Int32} (h : r = upd f k x) : r k = x := by subst h; simp [upd]
theorem dg_upd_ne {f : Nat → Int32} {k j : Nat} {x : Int32} (hn : ¬ j = k) : upd f k x j = f j := by unfold upd; rw [if_neg hn]
theorem dg_mapset (n k : Nat) (G : Nat → Value) (v : Value) : ((List.range n).map G).set k v = (List.range n).map (fun b => if b = k then v else G b) := by
  apply List.ext_getElem?
  intro j
  by_cases hjn : j < n
  · rw [List.getElem?_set, List.getElem?_map, List.getElem?_map, List.getElem?_range hjn]
    by_cases hj : k = j
    · subst hj
      rw [if_pos rfl, if_pos (by simpa using hjn)]
      simp
    · rw [if_neg hj]
      simp only [Option.map_some]
      rw [if_neg (fun z => hj z.symm)]
  · rw [List.getElem?_eq_none (by simp; omega), List.getElem?_eq_none (by simp; omega)]
/-! what stays as it was: fields and rows by role -/
def dg_sm (sh : List dg_q) (WF : List (Nat × Nat)) (WA : List Nat) (S S' : dg_S) : Prop :=
  (∀ (i k : Nat) (q : dg_q), sh[i]? = some q → (q.2.2.2, k) ∉ WF → S'.1 i k = S.1 i k) ∧ ∀ (i : Nat) (q : dg_q), sh[i]? = some q → q.2.2.2 ∉ WA → S'.2.1 i = S.2.1 i ∧ S'.2.2 i = S.2.2 i
theorem dg_sm.rf {sh : List dg_q} {WF : List (Nat × Nat)} {WA : List Nat} {S : dg_S} : dg_sm sh WF WA S S := ⟨fun _ _ _ _ _ => rfl, fun _ _ _ _ => ⟨rfl, rfl⟩⟩
theorem dg_sm.tr {sh : List dg_q} {WF WF' : List (Nat × Nat)} {WA WA' : List Nat} {S S1 S2 : dg_S} (h : dg_sm sh WF WA S S1) (h2 : dg_sm sh WF' WA' S1 S2) (hF : ∀ x ∈ WF', x ∈ WF) (hA : ∀ x ∈ WA', x ∈ WA) : dg_sm sh WF WA S S2 :=
  ⟨fun i k q hq hn => (h2.1 i k q hq (fun z => hn (hF _ z))).trans (h.1 i k q hq hn), fun i q hq hn => ⟨((h2.2 i q hq (fun z => hn (hA _ z))).1).trans (h.2 i q hq hn).1, ((h2.2 i q hq (fun z => hn (hA _ z))).2).trans (h.2 i q hq hn).2⟩⟩
theorem dg_sm.uF {sh : List dg_q} {WF : List (Nat × Nat)} {WA : List Nat} {S S1 S2 : dg_S} (h : dg_sm sh WF WA S S1) {i k : Nat} {v : Value} (e : S2 = dg_uF S1 i k v) {q : dg_q} (hq : sh[i]? = some q) (hm : (q.2.2.2, k) ∈ WF) : dg_sm sh WF WA S S2 := by
  refine ⟨fun a b r hr hn => ?_, fun a r hr hn => ⟨(dg_uF_f e a).trans (h.2 a r hr hn).1, (dg_uF_l e a).trans (h.2 a r hr hn).2⟩⟩
  refine (dg_uF_ne e (fun z => ?_)).trans (h.1 a b r hr hn)
  obtain ⟨rfl, rfl⟩ := z
  rw [hq] at hr
  cases hr
  exact hn hm
theorem dg_sm.uf {sh : List dg_q} {WF : List (Nat × Nat)} {WA : List Nat} {S S1 S2 : dg_S} (h : dg_sm sh WF WA S S1) {i : Nat} {r0 : Nat → Int32} (e : S2 = dg_uf S1 i r0) {q : dg_q} (hq : sh[i]? = some q) (hm : q.2.2.2 ∈ WA) : dg_sm sh WF WA S S2 := by
  refine ⟨fun a b r hr hn => (dg_uf_F e a b).trans (h.1 a b r hr hn), fun a r hr hn => ⟨?_, (dg_uf_l e a).trans (h.2 a r hr hn).2⟩⟩
  refine (dg_uf_ne e (fun z => ?_)).trans (h.2 a r hr hn).1
  subst z
  rw [hq] at hr
  cases hr
  exact hn hm
theorem dg_sm.ul {sh : List dg_q} {WF : List (Nat × Nat)} {WA : List Nat} {S S1 S2 : dg_S} (h : dg_sm sh WF WA S S1) {i : Nat} {r0 : Nat → Int64} (e : S2 = dg_ul S1 i r0) {q : dg_q} (hq : sh[i]? = some q) (hm : q.2.2.2 ∈ WA) : dg_sm sh WF WA S S2 := by
  refine ⟨fun a b r hr hn => (dg_ul_F e a b).trans (h.1 a b r hr hn), fun a r hr hn => ⟨(dg_ul_f e a).trans (h.2 a r hr hn).1, ?_⟩⟩
  refine (dg_ul_ne e (fun z => ?_)).trans (h.2 a r hr hn).2
  subst z
  rw [hq] at hr
  cases hr
  exact hn hm
/-! what always holds of a field, of a row, by role -/
abbrev dg_t : Type := Nat × Int × Int
/-- 1: an int between two; 2: a long; 3: the cell so far behind its object; 4: that cell; 5: one of two cells; 6: a pit -/
def dg_V (al : List (List Nat)) (o i : Nat) (t : dg_t) (v : Value) : Prop :=
  match t.1 with
  | 1 => ∃ x : Int32, v = .int x ∧ t.2.1 ≤ x.toInt ∧ x.toInt ≤ t.2.2
  | 2 => ∃ x : Int64, v = .long x
  | 3 => v = .ref (o + (i + t.2.1.toNat))
  | 4 => v = .ref (o + t.2.1.toNat)
  | 5 => ∃ d ∈ al.getD t.2.1.toNat [], v = .ref (o + d)
  | _ => True
def dg_Pcel (j v : Int) : Prop := 0 ≤ v ∧ v ≤ 255 ∧ (v ≠ 100 → 8 ≤ j ∧ j ≤ 63)
/-- of a pit that nobody has filled yet, too -/
def dg_Pc0 (j v : Int) : Prop := 0 ≤ v ∧ v ≤ 255 ∧ (100 < v → 8 ≤ j ∧ j ≤ 63)
theorem dg_Pcel.p0 {j v : Int} (h : dg_Pcel j v) : dg_Pc0 j v := ⟨h.1, h.2.1, fun q => h.2.2 (by omega)⟩
def dg_T (t : dg_t) (n : Nat) (f : Nat → Int32) : Prop :=
  match t.1 with
  | 1 => dk_all n f t.2.1 t.2.2
  | 2 => dk_row n f dg_Pc0 ∧ ((f 0).toInt = 100 → dk_row n f dg_Pcel)
  | _ => True
def dg_I (al : List (List Nat)) (tF : List (List dg_t)) (tA : List dg_t) (sh : List dg_q) (o : Nat) (S : dg_S) : Prop :=
  (∀ (i : Nat) (q : dg_q), sh[i]? = some q → ∀ (k : Nat) (t : dg_t), (tF.getD q.2.2.2 [])[k]? = some t → dg_V al o i t (S.1 i k)) ∧
  ∀ (i : Nat) (q : dg_q), sh[i]? = some q → ∀ t : dg_t, tA[q.2.2.2]? = some t → dg_T t q.2.2.1 (S.2.1 i)
section DGI
variable {al : List (List Nat)} {tF : List (List dg_t)} {tA : List dg_t} {sh : List dg_q} {o : Nat} {S S1 : dg_S} {i k : Nat} {q : dg_q}
theorem dg_I.int (I : dg_I al tF tA sh o S) (hq : sh[i]? = some q) {lo hi : Int} (ht : (tF.getD q.2.2.2 [])[k]? = some (1, lo, hi)) : ∃ x : Int32, S.1 i k = .int x ∧ lo ≤ x.toInt ∧ x.toInt ≤ hi := I.1 i q hq k _ ht
theorem dg_I.long (I : dg_I al tF tA sh o S) (hq : sh[i]? = some q) (ht : (tF.getD q.2.2.2 [])[k]? = some (2, 0, 0)) : ∃ x : Int64, S.1 i k = .long x := I.1 i q hq k _ ht
theorem dg_I.rel (I : dg_I al tF tA sh o S) (hq : sh[i]? = some q) {d : Nat} (ht : (tF.getD q.2.2.2 [])[k]? = some (3, (d : Int), 0)) : S.1 i k = .ref (o + (i + d)) := I.1 i q hq k _ ht
theorem dg_I.abs (I : dg_I al tF tA sh o S) (hq : sh[i]? = some q) {d : Nat} (ht : (tF.getD q.2.2.2 [])[k]? = some (4, (d : Int), 0)) : S.1 i k = .ref (o + d) := I.1 i q hq k _ ht
theorem dg_I.one (I : dg_I al tF tA sh o S) (hq : sh[i]? = some q) {d : Nat} (ht : (tF.getD q.2.2.2 [])[k]? = some (5, (d : Int), 0)) : ∃ j ∈ al.getD d [], S.1 i k = .ref (o + j) := I.1 i q hq k _ ht
theorem dg_I.row (I : dg_I al tF tA sh o S) (hq : sh[i]? = some q) {lo hi : Int} (ht : tA[q.2.2.2]? = some (1, lo, hi)) : dk_all q.2.2.1 (S.2.1 i) lo hi := I.2 i q hq _ ht
theorem dg_I.cel2 (I : dg_I al tF tA sh o S) (hq : sh[i]? = some q) {lo hi : Int} (ht : tA[q.2.2.2]? = some (2, lo, hi)) : dk_row q.2.2.1 (S.2.1 i) dg_Pc0 ∧ ((S.2.1 i 0).toInt = 100 → dk_row q.2.2.1 (S.2.1 i) dg_Pcel) := I.2 i q hq _ ht
theorem dg_I.cel0 (I : dg_I al tF tA sh o S) (hq : sh[i]? = some q) {lo hi : Int} (ht : tA[q.2.2.2]? = some (2, lo, hi)) : dk_row q.2.2.1 (S.2.1 i) dg_Pc0 := (I.cel2 hq ht).1
theorem dg_I.cel (I : dg_I al tF tA sh o S) (hq : sh[i]? = some q) {lo hi : Int} (ht : tA[q.2.2.2]? = some (2, lo, hi)) (h : (S.2.1 i 0).toInt = 100) : dk_row q.2.2.1 (S.2.1 i) dg_Pcel := (I.cel2 hq ht).2 h
theorem dg_I.uF (I : dg_I al tF tA sh o S) {v : Value} (e : S1 = dg_uF S i k v) (hq : sh[i]? = some q) (hv : ∀ t, (tF.getD q.2.2.2 [])[k]? = some t → dg_V al o i t v) : dg_I al tF tA sh o S1 := by
  refine ⟨fun a r hr b t ht => ?_, fun a r hr t ht => by rw [dg_uF_f e]; exact I.2 a r hr t ht⟩
  by_cases h : a = i ∧ b = k
  · obtain ⟨rfl, rfl⟩ := h
    rw [hq] at hr
    cases hr
    rw [dg_uF_at e]
    exact hv t ht
  · rw [dg_uF_ne e h]
    exact I.1 a r hr b t ht
theorem dg_I.uFi (I : dg_I al tF tA sh o S) {x : Int32} (e : S1 = dg_uF S i k (.int x)) (hq : sh[i]? = some q) {lo hi : Int} (ht : (tF.getD q.2.2.2 [])[k]? = some (1, lo, hi)) (hx : lo ≤ x.toInt ∧ x.toInt ≤ hi) : dg_I al tF tA sh o S1 := I.uF e hq (fun t h => by rw [ht] at h; cases h; exact ⟨x, rfl, hx⟩)
theorem dg_I.uFl (I : dg_I al tF tA sh o S) {x : Int64} (e : S1 = dg_uF S i k (.long x)) (hq : sh[i]? = some q) (ht : (tF.getD q.2.2.2 [])[k]? = some (2, 0, 0)) : dg_I al tF tA sh o S1 := I.uF e hq (fun t h => by rw [ht] at h; cases h; exact ⟨x, rfl⟩)
theorem dg_I.uFo (I : dg_I al tF tA sh o S) {j : Nat} (e : S1 = dg_uF S i k (.ref (o + j))) (hq : sh[i]? = some q) {d : Nat} (ht : (tF.getD q.2.2.2 [])[k]? = some (5, (d : Int), 0)) (hj : j ∈ al.getD d []) : dg_I al tF tA sh o S1 := I.uF e hq (fun t h => by rw [ht] at h; cases h; exact ⟨j, hj, rfl⟩)
theorem dg_I.uf (I : dg_I al tF tA sh o S) {r0 : Nat → Int32} (e : S1 = dg_uf S i r0) (hq : sh[i]? = some q) (hv : ∀ t, tA[q.2.2.2]? = some t → dg_T t q.2.2.1 r0) : dg_I al tF tA sh o S1 := by
  refine ⟨fun a r hr b t ht => by rw [dg_uf_F e]; exact I.1 a r hr b t ht, fun a r hr t ht => ?_⟩
  by_cases h : a = i
  · subst h
    rw [hq] at hr
    cases hr
    rw [dg_uf_at e]
    exact hv t ht
  · rw [dg_uf_ne e h]
    exact I.2 a r hr t ht
theorem dg_I.ufr (I : dg_I al tF tA sh o S) {r0 : Nat → Int32} (e : S1 = dg_uf S i r0) (hq : sh[i]? = some q) {lo hi : Int} (ht : tA[q.2.2.2]? = some (1, lo, hi)) (hx : dk_all q.2.2.1 r0 lo hi) : dg_I al tF tA sh o S1 := I.uf e hq (fun t h => by rw [ht] at h; cases h; exact hx)
theorem dg_I.ufu (I : dg_I al tF tA sh o S) {j : Nat} {x : Int32} (e : S1 = dg_uf S i (upd (S.2.1 i) j x)) (hq : sh[i]? = some q) {lo hi : Int} (ht : tA[q.2.2.2]? = some (1, lo, hi)) (hx : lo ≤ x.toInt ∧ x.toInt ≤ hi) : dg_I al tF tA sh o S1 := I.ufr e hq ht (dk_all_upd (I.row hq ht) j hx rfl)
theorem dg_I.ufc (I : dg_I al tF tA sh o S) {j x : Int32} (e : S1 = dg_uf S i (upd (S.2.1 i) j.toNatClampNeg x)) (hq : sh[i]? = some q) {lo hi : Int} (ht : tA[q.2.2.2]? = some (2, lo, hi)) (hin : vp_in j q.2.2.1) (hx : dg_Pcel j.toInt x.toInt) (h1 : 1 ≤ j.toInt) : dg_I al tF tA sh o S1 := I.uf e hq (fun t h => by
  rw [ht] at h
  cases h
  have hj : ¬ 0 = j.toNatClampNeg := by
    have := dk_inT hin
    omega
  refine ⟨dk_row_upd (I.cel0 hq ht) hin hx.p0 rfl, fun h0 => ?_⟩
  have h2 : (S.2.1 i 0).toInt = 100 := by
    unfold upd at h0
    rw [if_neg hj] at h0
    exact h0
  exact dk_row_upd (I.cel hq ht h2) hin hx rfl)
theorem dg_I.uf0 (I : dg_I al tF tA sh o S) {r0 : Nat → Int32} (e : S1 = dg_uf S i r0) (hq : sh[i]? = some q) (ht : tA[q.2.2.2]? = some (0, 0, 0)) : dg_I al tF tA sh o S1 := I.uf e hq (fun t h => by rw [ht] at h; cases h; trivial)
theorem dg_I.ul (I : dg_I al tF tA sh o S) {r0 : Nat → Int64} (e : S1 = dg_ul S i r0) : dg_I al tF tA sh o S1 := ⟨fun a r hr b t ht => by rw [dg_ul_F e]; exact I.1 a r hr b t ht, fun a r hr t ht => by rw [dg_ul_f e]; exact I.2 a r hr t ht⟩
end DGI
theorem dg_c0_at {n : Nat} {f : Nat → Int32} (h : dk_row n f dg_Pc0) {i : Int32} (hin : vp_in i n) {x : Int32} (hx : x = f i.toNatClampNeg) : 0 ≤ x.toInt ∧ x.toInt ≤ 255 ∧ (100 < x.toInt → 8 ≤ i.toInt ∧ i.toInt ≤ 63) := dk_row_at h hin hx
theorem dg_cel_at {n : Nat} {f : Nat → Int32} (h : dk_row n f dg_Pcel) {i : Int32} (hin : vp_in i n) {x : Int32} (hx : x = f i.toNatClampNeg) : 0 ≤ x.toInt ∧ x.toInt ≤ 255 ∧ (x.toInt ≠ 100 → 8 ≤ i.toInt ∧ i.toInt ≤ 63) := dk_row_at h hin hx
