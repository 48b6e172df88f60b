/-! bytes on a tape; two tapes with the same bytes are the same text -/
def tp_b (v sh : Int32) : Int32 := (v >>> (sh &&& 31)) &&& 255
def tp_k (f : Nat → Int32) (t : Nat) (v : Int32) : Nat → Nat → Int32
  | 0 => f
  | k + 1 => upd (tp_k f t v k) (t + k) (tp_b v (Int32.ofInt (24 - 8 * (k : Int))))
def tp_5 (f : Nat → Int32) (t : Nat) (a b c d e : Int32) : Nat → Int32 := tp_k (tp_k (tp_k (tp_k (tp_k f t a 4) (t + 4) b 4) (t + 8) c 4) (t + 12) d 4) (t + 16) e 4
theorem tp_z {f : Nat → Int32} {t0 x v : Int32} (h : x.toInt = t0.toInt) : f = tp_k f t0.toNatClampNeg v (x.toNatClampNeg - t0.toNatClampNeg) := by
  have e1 := dk_clN t0
  have e2 := dk_clN x
  rw [show x.toNatClampNeg - t0.toNatClampNeg = 0 by omega]
  rfl
theorem tp_st {f row row' : Nat → Int32} {t0 x x' v b sh : Int32} (h : row = tp_k f t0.toNatClampNeg v (x.toNatClampNeg - t0.toNatClampNeg)) (e : row' = upd row x.toNatClampNeg b) (eb : b = tp_b v sh) (hs : 8 * (x.toInt - t0.toInt) + sh.toInt = 24) (h0 : 0 ≤ t0.toInt) (h1 : t0.toInt ≤ x.toInt) (hx : x'.toInt = x.toInt + 1) : row' = tp_k f t0.toNatClampNeg v (x'.toNatClampNeg - t0.toNatClampNeg) := by
  have e1 := dk_clN t0
  have e2 := dk_clN x
  have e3 := dk_clN x'
  obtain ⟨k, hk⟩ : ∃ k : Nat, k = x.toNatClampNeg - t0.toNatClampNeg := ⟨_, rfl⟩
  rw [← hk] at h
  rw [show x'.toNatClampNeg - t0.toNatClampNeg = k + 1 by omega]
  show row' = upd (tp_k f t0.toNatClampNeg v k) (t0.toNatClampNeg + k) (tp_b v (Int32.ofInt (24 - 8 * (k : Int))))
  rw [e, h, eb, show t0.toNatClampNeg + k = x.toNatClampNeg by omega, show sh = Int32.ofInt (24 - 8 * (k : Int)) from t_ofI (by omega)]
theorem tp_e {f row : Nat → Int32} {t0 x v : Int32} (h : row = tp_k f t0.toNatClampNeg v (x.toNatClampNeg - t0.toNatClampNeg)) (hx : x.toInt = t0.toInt + 4) (h0 : 0 ≤ t0.toInt) : row = tp_k f t0.toNatClampNeg v 4 := by
  have e1 := dk_clN t0
  have e2 := dk_clN x
  rw [show x.toNatClampNeg - t0.toNatClampNeg = 4 by omega] at h
  exact h
theorem tp_k_eq {f g : Nat → Int32} {t n : Nat} {v : Int32} (h : ∀ j, j < n → f j = g j) (ht : t ≤ n) : ∀ k j : Nat, j < n ∨ j < t + k → tp_k f t v k j = tp_k g t v k j
  | 0, j, hj => h j (by omega)
  | k + 1, j, hj => by
    show upd (tp_k f t v k) (t + k) _ j = upd (tp_k g t v k) (t + k) _ j
    unfold upd
    by_cases q : j = t + k
    · rw [if_pos q, if_pos q]
    · rw [if_neg q, if_neg q]
      exact tp_k_eq h ht k j (by omega)
theorem tp_5_eq {f g : Nat → Int32} {t : Nat} {a b c d e : Int32} (h : ∀ j, j < t → f j = g j) : ∀ j, j < t + 20 → tp_5 f t a b c d e j = tp_5 g t a b c d e j := by
  intro j hj
  unfold tp_5
  have h1 : ∀ j, j < t + 4 → tp_k f t a 4 j = tp_k g t a 4 j := fun j hj => tp_k_eq h (Nat.le_refl _) 4 j (Or.inr hj)
  have h2 : ∀ j, j < t + 8 → tp_k (tp_k f t a 4) (t + 4) b 4 j = tp_k (tp_k g t a 4) (t + 4) b 4 j := fun j hj => tp_k_eq h1 (Nat.le_refl _) 4 j (Or.inr (by omega))
  have h3 : ∀ j, j < t + 12 → tp_k (tp_k (tp_k f t a 4) (t + 4) b 4) (t + 8) c 4 j = tp_k (tp_k (tp_k g t a 4) (t + 4) b 4) (t + 8) c 4 j := fun j hj => tp_k_eq h2 (Nat.le_refl _) 4 j (Or.inr (by omega))
  have h4 : ∀ j, j < t + 16 → tp_k (tp_k (tp_k (tp_k f t a 4) (t + 4) b 4) (t + 8) c 4) (t + 12) d 4 j = tp_k (tp_k (tp_k (tp_k g t a 4) (t + 4) b 4) (t + 8) c 4) (t + 12) d 4 j := fun j hj => tp_k_eq h3 (Nat.le_refl _) 4 j (Or.inr (by omega))
  exact tp_k_eq h4 (Nat.le_refl _) 4 j (Or.inr (by omega))
section TC
variable {b b' : Nat → Int32} {n : Nat}
theorem tc_bk (h : ∀ j, j < n → b' j = b j) : t_bk b' n = t_bk b n := funext fun j => by
  unfold t_bk
  by_cases q : j < n
  · rw [h j q]
  · simp [q]
theorem tc_wd (h : ∀ j, j < n → b' j = b j) : t_wd b' n = t_wd b n := funext fun j => by
  unfold t_wd
  by_cases q : j < n
  · rw [h j q]
  · simp [q]
theorem tc_nm (h : ∀ j, j < n → b' j = b j) : t_nm b' n = t_nm b n := funext fun j => by
  unfold t_nm
  by_cases q : j < n
  · rw [h j q]
  · simp [q]
theorem tc_sk (h : ∀ j, j < n → b' j = b j) (a : Nat) : t_sk b' n a = t_sk b n a := by
  unfold t_sk
  rw [tc_bk h]
theorem tc_en (h : ∀ j, j < n → b' j = b j) {s : Nat} (hs : s < n) : t_en b' n s = t_en b n s := by
  unfold t_en
  rw [h s hs, tc_wd h, tc_nm h]
theorem tc_P (h : ∀ j, j < n → b' j = b j) : ∀ k, t_P b' n k = t_P b n k
  | 0 => rfl
  | k + 1 => by
    show (if t_sk b' n (t_P b' n k) < n then t_en b' n (t_sk b' n (t_P b' n k)) else t_sk b' n (t_P b' n k)) = (if t_sk b n (t_P b n k) < n then t_en b n (t_sk b n (t_P b n k)) else t_sk b n (t_P b n k))
    rw [tc_P h k, tc_sk h]
    by_cases q : t_sk b n (t_P b n k) < n
    · rw [if_pos q, if_pos q, tc_en h q]
    · rw [if_neg q, if_neg q]
theorem tc_s (h : ∀ j, j < n → b' j = b j) (k : Nat) : t_s b' n k = t_s b n k := by
  unfold t_s
  rw [tc_P h, tc_sk h]
theorem tc_adj (h : ∀ j, j < n → b' j = b j) {s : Nat} (hs : s < n) : t_adj b' s = t_adj b s := by
  unfold t_adj
  rw [h (s - 1) (by omega)]
theorem tc_own (h : ∀ j, j < n → b' j = b j) {s e : Nat} (he : e ≤ n) : t_own b' s e = t_own b s e := by
  have hc : t_ch b' s e = t_ch b s e := funext fun i => by
    unfold t_ch
    by_cases q : s + i < e
    · rw [if_pos q, if_pos q, h _ (by omega)]
    · rw [if_neg q, if_neg q]
  have hm : t_mt b' s e = t_mt b s e := funext fun j => by
    unfold t_mt
    rw [hc]
  unfold t_own
  rw [hm]
theorem tc_let (h : ∀ j, j < n → b' j = b j) {s e : Nat} (he : e ≤ n) : ∀ i, t_let b' s e i = t_let b s e i
  | 0 => rfl
  | i + 1 => by
    show 27 * t_let b' s e i + _ = 27 * t_let b s e i + _
    rw [tc_let h he i]
    by_cases q : s + i < e
    · rw [if_pos q, if_pos q, h _ (by omega)]
    · rw [if_neg q, if_neg q]
theorem tc_num (h : ∀ j, j < n → b' j = b j) {s : Nat} : ∀ i, s + i ≤ n → t_num b' s i = t_num b s i
  | 0, _ => rfl
  | i + 1, hi => by
    show 10 * t_num b' s i + _ = 10 * t_num b s i + _
    rw [tc_num h i (by omega), h _ (by omega)]
theorem tc_kd (h : ∀ j, j < n → b' j = b j) : T_kd b' n = T_kd b n ∧ T_vl b' n = T_vl b n := by
  have key : ∀ k, t_kd b' n k = t_kd b n k ∧ t_vl b' n k = t_vl b n k := by
    intro k
    unfold t_kd t_vl
    rw [tc_s h, tc_P h]
    by_cases q : t_s b n k < n
    · rw [if_pos q, if_pos q, if_pos q, if_pos q, tc_adj h q]
      have he : t_P b n (k + 1) ≤ n := t_P_le (k + 1)
      have hg : t_s b n k < t_P b n (k + 1) := by rw [t_P_s q]; exact t_en_gt q
      refine ⟨?_, ?_⟩
      · unfold t_K
        rw [h _ q, tc_own h he]
      · unfold t_V
        rw [h _ q, tc_own h he, tc_let h he, tc_num h _ (by omega)]
    · rw [if_neg q, if_neg q, if_neg q, if_neg q]
      exact ⟨rfl, rfl⟩
  exact ⟨funext fun k => by unfold T_kd; rw [(key k).1], funext fun k => by unfold T_vl; rw [(key k).2]⟩
/-- what two readers of one text answer is one number -/
theorem mine_eq {r1 r2 t : Int32} {f g : Nat → Int32} (h1 : (r1.toInt = -1 → y_mine (T_kd f t.toNatClampNeg) (T_vl f t.toNatClampNeg) = none) ∧ (r1.toInt ≠ -1 → ∃ σ9 : y_S, y_mine (T_kd f t.toNatClampNeg) (T_vl f t.toNatClampNeg) = some (r1.toNatClampNeg, σ9))) (h2 : (r2.toInt = -1 → y_mine (T_kd g t.toNatClampNeg) (T_vl g t.toNatClampNeg) = none) ∧ (r2.toInt ≠ -1 → ∃ σ9 : y_S, y_mine (T_kd g t.toNatClampNeg) (T_vl g t.toNatClampNeg) = some (r2.toNatClampNeg, σ9))) (h : ∀ j, j < t.toNatClampNeg → f j = g j) (b1 : -1 ≤ r1.toInt) (b2 : -1 ≤ r2.toInt) : r1 = r2 := by
  obtain ⟨e1, e2⟩ := tc_kd h
  rw [e1, e2] at h1
  have c1 := dk_clN r1
  have c2 := dk_clN r2
  apply Int32.toInt_inj.mp
  by_cases q1 : r1.toInt = -1
  · have a := h1.1 q1
    by_cases q2 : r2.toInt = -1
    · omega
    · obtain ⟨σ, e⟩ := h2.2 q2
      rw [a] at e
      cases e
  · obtain ⟨σ, e⟩ := h1.2 q1
    by_cases q2 : r2.toInt = -1
    · rw [h2.1 q2] at e
      cases e
    · obtain ⟨σ', e'⟩ := h2.2 q2
      rw [e] at e'
      have e3 := congrArg Prod.fst (Option.some.inj e')
      have e4 : r1.toNatClampNeg = r2.toNatClampNeg := e3
      omega
end TC
