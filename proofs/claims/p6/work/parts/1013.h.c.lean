/-! a text as tokens: b its bytes, n how many -/
def t_l (v : Int32) : Bool := decide (97 ≤ v.toInt) && decide (v.toInt ≤ 122)
def t_d (v : Int32) : Bool := decide (48 ≤ v.toInt) && decide (v.toInt ≤ 57)
def t_b (v : Int32) : Bool := decide (v.toInt = 32) || decide (v.toInt = 10)
def t_run (p : Nat → Bool) : Nat → Nat → Nat
  | 0, a => a
  | f + 1, a => if p a then t_run p f (a + 1) else a
def t_wd (b : Nat → Int32) (n j : Nat) : Bool := decide (j < n) && t_l (b j)
def t_nm (b : Nat → Int32) (n j : Nat) : Bool := decide (j < n) && t_d (b j)
def t_bk (b : Nat → Int32) (n j : Nat) : Bool := decide (j < n) && t_b (b j)
/-- where the next token begins -/
def t_sk (b : Nat → Int32) (n a : Nat) : Nat := t_run (t_bk b n) 1600 a
/-- where a token that begins there ends -/
def t_en (b : Nat → Int32) (n s : Nat) : Nat := if t_l (b s) then t_run (t_wd b n) 1600 s else if t_d (b s) then t_run (t_nm b n) 1600 s else s + 1
/-- where the tokens ahead of token k end -/
def t_P (b : Nat → Int32) (n : Nat) : Nat → Nat
  | 0 => 0
  | k + 1 => if t_sk b n (t_P b n k) < n then t_en b n (t_sk b n (t_P b n k)) else t_sk b n (t_P b n k)
def t_s (b : Nat → Int32) (n k : Nat) : Nat := t_sk b n (t_P b n k)
theorem t_run_ge {p : Nat → Bool} : ∀ (f a : Nat), a ≤ t_run p f a
  | 0, a => Nat.le_refl a
  | f + 1, a => by
    unfold t_run
    split
    · exact Nat.le_trans (Nat.le_succ a) (t_run_ge f (a + 1))
    · exact Nat.le_refl a
theorem t_run_in {p : Nat → Bool} : ∀ (f a j : Nat), a ≤ j → j < t_run p f a → p j = true
  | 0, a, j, h1, h2 => absurd h2 (Nat.not_lt.mpr h1)
  | f + 1, a, j, h1, h2 => by
    unfold t_run at h2
    by_cases q : p a = true
    · rw [if_pos q] at h2
      by_cases z : j = a
      · rw [z]
        exact q
      · exact t_run_in f (a + 1) j (by omega) h2
    · rw [if_neg q] at h2
      omega
theorem t_run_out {p : Nat → Bool} {n : Nat} (hp : ∀ j, p j = true → j < n) : ∀ (f a : Nat), n ≤ f + a → p (t_run p f a) = false
  | 0, a, h => by
    show p a = false
    cases q : p a with
    | false => rfl
    | true => exact absurd (hp a q) (by omega)
  | f + 1, a, h => by
    unfold t_run
    by_cases q : p a = true
    · rw [if_pos q]
      exact t_run_out hp f (a + 1) (by omega)
    · rw [if_neg q]
      cases q2 : p a with
      | false => rfl
      | true => exact absurd q2 q
/-- a run is known by its end -/
theorem t_run_eq {p : Nat → Bool} {n : Nat} (hp : ∀ j, p j = true → j < n) {f a e : Nat} (hf : n ≤ f + a) (h1 : a ≤ e) (h2 : ∀ j, a ≤ j → j < e → p j = true) (h3 : p e = false) : t_run p f a = e := by
  have o := t_run_out hp f a hf
  have g := t_run_ge (p := p) f a
  by_cases q : t_run p f a < e
  · rw [h2 _ g q] at o
    cases o
  · by_cases z : e < t_run p f a
    · rw [t_run_in f a e h1 z] at h3
      cases h3
    · omega
theorem t_wd_lt {b : Nat → Int32} {n : Nat} : ∀ j, t_wd b n j = true → j < n := fun j h => by
  unfold t_wd at h
  simp only [Bool.and_eq_true, decide_eq_true_eq] at h
  exact h.1
theorem t_nm_lt {b : Nat → Int32} {n : Nat} : ∀ j, t_nm b n j = true → j < n := fun j h => by
  unfold t_nm at h
  simp only [Bool.and_eq_true, decide_eq_true_eq] at h
  exact h.1
theorem t_bk_lt {b : Nat → Int32} {n : Nat} : ∀ j, t_bk b n j = true → j < n := fun j h => by
  unfold t_bk at h
  simp only [Bool.and_eq_true, decide_eq_true_eq] at h
  exact h.1
/-! what a token is: 0 the end, 1 an OWN WORD, 2 a NAME, 3 a NUMBER, 4 a sign, 5 a wrong one -/
def t_adj (b : Nat → Int32) (s : Nat) : Bool := decide (0 < s) && (t_l (b (s - 1)) || t_d (b (s - 1)))
def t_ch (b : Nat → Int32) (s e i : Nat) : Int := if s + i < e then (b (s + i)).toInt else 32
def t_words : List (List Int) := [[115, 101, 97, 109, 32, 32], [98, 121, 32, 32, 32, 32], [115, 104, 97, 102, 116, 32], [114, 101, 97, 99, 104, 32], [113, 117, 97, 107, 101, 32], [103, 114, 97, 100, 101, 32], [109, 105, 110, 101, 114, 32], [100, 105, 103, 32, 32, 32], [97, 116, 32, 32, 32, 32], [111, 114, 100, 101, 114, 32], [116, 117, 98, 115, 32, 32], [112, 97, 121, 115, 32, 32], [115, 112, 111, 105, 108, 115], [102, 97, 108, 108, 115, 32], [103, 101, 116, 115, 32, 32], [100, 101, 112, 116, 104, 32], [115, 104, 105, 102, 116, 32], [102, 97, 114, 32, 32, 32], [111, 112, 101, 110, 32, 32], [108, 105, 116, 32, 32, 32], [105, 102, 32, 32, 32, 32], [111, 114, 32, 32, 32, 32], [97, 110, 100, 32, 32, 32], [110, 111, 116, 32, 32, 32], [97, 108, 108, 32, 32, 32], [109, 105, 110, 32, 32, 32], [109, 97, 120, 32, 32, 32]]
def t_mt (b : Nat → Int32) (s e j : Nat) : Bool := (List.range 6).all (fun i => decide (t_ch b s e i = (t_words.getD j []).getD i 0))
def t_own (b : Nat → Int32) (s e : Nat) : Int := match (List.range 27).find? (fun j => t_mt b s e j) with
  | some j => (j : Int)
  | none => -1
def t_let (b : Nat → Int32) (s e : Nat) : Nat → Int
  | 0 => 0
  | i + 1 => 27 * t_let b s e i + (if s + i < e then (b (s + i)).toInt - 96 else 0)
def t_num (b : Nat → Int32) (s : Nat) : Nat → Int
  | 0 => 0
  | i + 1 => 10 * t_num b s i + ((b (s + i)).toInt - 48)
def t_K (b : Nat → Int32) (s e : Nat) (ad : Bool) : Int :=
  if t_l (b s) then (if 6 < e - s ∨ ad = true then 5 else if t_own b s e = -1 then 2 else 1)
  else if t_d (b s) then (if 4 < e - s ∨ ad = true then 5 else 3) else 4
/-- its number: an OWN WORD's, a NAME's letters by 27, a NUMBER's, a sign's byte, where a wrong one is wrong -/
def t_V (b : Nat → Int32) (s e : Nat) (ad : Bool) : Int :=
  if t_l (b s) then (if 6 < e - s then (s : Int) + 6 else if ad = true then (s : Int) else if t_own b s e = -1 then t_let b s e 6 else t_own b s e)
  else if t_d (b s) then (if 4 < e - s then (s : Int) + 4 else if ad = true then (s : Int) else t_num b s (e - s)) else (b s).toInt
def t_kd (b : Nat → Int32) (n k : Nat) : Int := if t_s b n k < n then t_K b (t_s b n k) (t_P b n (k + 1)) (t_adj b (t_s b n k)) else 0
def t_vl (b : Nat → Int32) (n k : Nat) : Int := if t_s b n k < n then t_V b (t_s b n k) (t_P b n (k + 1)) (t_adj b (t_s b n k)) else 0
def T_kd (b : Nat → Int32) (n k : Nat) : Int32 := Int32.ofInt (t_kd b n k)
def T_vl (b : Nat → Int32) (n k : Nat) : Int32 := Int32.ofInt (t_vl b n k)
theorem t_ofI {x : Int32} {i : Int} (h : x.toInt = i) : x = Int32.ofInt i := by
  rw [← h]
  exact (Int32.ofInt_toInt x).symm
theorem t_s_def {b : Nat → Int32} {n k : Nat} : t_s b n k = t_sk b n (t_P b n k) := rfl
theorem t_P_s {b : Nat → Int32} {n k : Nat} (h : t_s b n k < n) : t_P b n (k + 1) = t_en b n (t_s b n k) := by
  show (if t_sk b n (t_P b n k) < n then t_en b n (t_sk b n (t_P b n k)) else t_sk b n (t_P b n k)) = _
  rw [if_pos (show t_sk b n (t_P b n k) < n from h)]
  rfl
theorem t_P_e {b : Nat → Int32} {n k : Nat} (h : ¬ t_s b n k < n) : t_P b n (k + 1) = t_s b n k := by
  show (if t_sk b n (t_P b n k) < n then t_en b n (t_sk b n (t_P b n k)) else t_sk b n (t_P b n k)) = _
  rw [if_neg (show ¬ t_sk b n (t_P b n k) < n from h)]
  rfl
/-- a run ends where the text does, at the latest -/
theorem t_run_le {p : Nat → Bool} {n : Nat} (hp : ∀ j, p j = true → j < n) : ∀ (f a : Nat), a ≤ n → t_run p f a ≤ n
  | 0, a, h => h
  | f + 1, a, h => by
    unfold t_run
    by_cases q : p a = true
    · rw [if_pos q]
      exact t_run_le hp f (a + 1) (hp a q)
    · rw [if_neg q]
      exact h
theorem t_sk_ge {b : Nat → Int32} {n a : Nat} : a ≤ t_sk b n a := t_run_ge 1600 a
theorem t_sk_le {b : Nat → Int32} {n a : Nat} (h : a ≤ n) : t_sk b n a ≤ n := t_run_le t_bk_lt 1600 a h
theorem t_sk_no {b : Nat → Int32} {n a : Nat} (h : t_bk b n a = false) : t_sk b n a = a := by
  unfold t_sk
  show (if t_bk b n a = true then t_run (t_bk b n) 1599 (a + 1) else a) = a
  rw [if_neg (by rw [h]; decide)]
theorem t_sk_yes {b : Nat → Int32} {n a : Nat} (hn : n ≤ 1600) (h : t_bk b n a = true) : t_sk b n (a + 1) = t_sk b n a := by
  unfold t_sk
  have h1 : a < t_run (t_bk b n) 1600 a := by
    show a < (if t_bk b n a = true then t_run (t_bk b n) 1599 (a + 1) else a)
    rw [if_pos h]
    exact t_run_ge 1599 (a + 1)
  exact t_run_eq t_bk_lt (by omega) h1 (fun j hj hj2 => t_run_in 1600 a j (by omega) hj2) (t_run_out t_bk_lt 1600 a (by omega))
theorem t_en_gt {b : Nat → Int32} {n s : Nat} (h : s < n) : s < t_en b n s := by
  unfold t_en
  by_cases q : t_l (b s) = true
  · rw [if_pos q]
    show s < (if t_wd b n s = true then t_run (t_wd b n) 1599 (s + 1) else s)
    rw [if_pos (by unfold t_wd; rw [decide_eq_true h, q]; rfl)]
    exact t_run_ge 1599 (s + 1)
  · rw [if_neg q]
    by_cases q2 : t_d (b s) = true
    · rw [if_pos q2]
      show s < (if t_nm b n s = true then t_run (t_nm b n) 1599 (s + 1) else s)
      rw [if_pos (by unfold t_nm; rw [decide_eq_true h, q2]; rfl)]
      exact t_run_ge 1599 (s + 1)
    · rw [if_neg q2]
      exact Nat.lt_succ_self s
theorem t_en_le {b : Nat → Int32} {n s : Nat} (h : s < n) : t_en b n s ≤ n := by
  unfold t_en
  split
  · exact t_run_le t_wd_lt 1600 s (Nat.le_of_lt h)
  · split
    · exact t_run_le t_nm_lt 1600 s (Nat.le_of_lt h)
    · exact h
/-- c tokens are told: those ahead of a -/
def t_inv (b : Nat → Int32) (n : Nat) (KD VL : Nat → Int32) (c a : Nat) : Prop := c ≤ a ∧ a ≤ n ∧ t_sk b n a = t_s b n c ∧ ∀ j, j < c → KD j = T_kd b n j ∧ VL j = T_vl b n j
section TINV
variable {b KD VL KD' VL' : Nat → Int32} {n c a e : Nat} {k v : Int32}
theorem t_inv.zero : t_inv b n KD VL 0 0 := ⟨Nat.le_refl 0, Nat.zero_le n, rfl, fun j h => absurd h (Nat.not_lt_zero j)⟩
theorem t_inv.blank (h : t_inv b n KD VL c a) (hn : n ≤ 1600) (ha : a < n) (hb : t_b (b a) = true) : t_inv b n KD VL c (a + 1) := by
  obtain ⟨h1, h2, h3, h4⟩ := h
  refine ⟨by omega, ha, ?_, h4⟩
  rw [← h3]
  exact t_sk_yes hn (by unfold t_bk; rw [decide_eq_true ha, hb]; rfl)
theorem t_inv.at (h : t_inv b n KD VL c a) (ha : a < n) (hb : t_b (b a) = false) : t_s b n c = a := by
  rw [← h.2.2.1]
  exact t_sk_no (by unfold t_bk; rw [hb]; simp)
theorem t_inv.tok (h : t_inv b n KD VL c a) (ha : a < n) (hb : t_b (b a) = false) (he : e = t_en b n a) (hk : k.toInt = t_K b a e (t_adj b a)) (hv : v.toInt = t_V b a e (t_adj b a)) (eK : KD' = upd KD c k) (eV : VL' = upd VL c v) : t_inv b n KD' VL' (c + 1) e := by
  have hs := h.at ha hb
  have g := t_en_gt (b := b) ha
  have l := t_en_le (b := b) ha
  have hP : t_P b n (c + 1) = e := by rw [t_P_s (by rw [hs]; exact ha), hs, he]
  obtain ⟨h1, h2, h3, h4⟩ := h
  refine ⟨by omega, by omega, by rw [t_s_def, hP], fun j hj => ?_⟩
  rw [eK, eV]
  unfold upd
  by_cases q : j = c
  · rw [if_pos q, if_pos q, q]
    unfold T_kd T_vl t_kd t_vl
    rw [hs, hP, if_pos ha, if_pos ha]
    exact ⟨t_ofI hk, t_ofI hv⟩
  · rw [if_neg q, if_neg q]
    exact h4 j (by omega)
theorem t_inv.fin (h : t_inv b n KD VL c a) (ha : n ≤ a) (hk : k.toInt = 0) (hv : v.toInt = 0) (eK : KD' = upd KD c k) (eV : VL' = upd VL c v) : (∀ j, j ≤ c → KD' j = T_kd b n j) ∧ ∀ j, j ≤ c → VL' j = T_vl b n j := by
  obtain ⟨h1, h2, h3, h4⟩ := h
  have hs : ¬ t_s b n c < n := by
    have g := t_sk_ge (b := b) (n := n) (a := a)
    omega
  have key : ∀ j, j ≤ c → KD' j = T_kd b n j ∧ VL' j = T_vl b n j := fun j hj => by
    rw [eK, eV]
    unfold upd
    by_cases q : j = c
    · rw [if_pos q, if_pos q, q]
      unfold T_kd T_vl t_kd t_vl
      rw [if_neg hs, if_neg hs]
      exact ⟨t_ofI hk, t_ofI hv⟩
    · rw [if_neg q, if_neg q]
      exact h4 j (by omega)
  exact ⟨fun j hj => (key j hj).1, fun j hj => (key j hj).2⟩
end TINV
/-- a token takes a byte at least: none stands at n or behind -/
theorem t_P_ge {b : Nat → Int32} {n : Nat} : ∀ k : Nat, k ≤ n → k ≤ t_P b n k
  | 0, _ => Nat.zero_le _
  | k + 1, h => by
    have i := t_P_ge (b := b) (n := n) k (by omega)
    have g := t_sk_ge (b := b) (n := n) (a := t_P b n k)
    by_cases q : t_s b n k < n
    · rw [t_P_s q]
      have q2 := t_en_gt (b := b) q
      rw [t_s_def] at q2 ⊢
      omega
    · rw [t_P_e q]
      omega
theorem t_P_mono {b : Nat → Int32} {n k : Nat} : t_P b n k ≤ t_P b n (k + 1) := by
  have g := t_sk_ge (b := b) (n := n) (a := t_P b n k)
  by_cases q : t_s b n k < n
  · rw [t_P_s q]
    have q2 := t_en_gt (b := b) q
    rw [t_s_def] at q2 ⊢
    omega
  · rw [t_P_e q]
    exact g
theorem t_P_le {b : Nat → Int32} {n : Nat} : ∀ k : Nat, t_P b n k ≤ n
  | 0 => Nat.zero_le _
  | k + 1 => by
    by_cases q : t_s b n k < n
    · rw [t_P_s q]
      exact t_en_le q
    · rw [t_P_e q]
      exact t_sk_le (t_P_le k)
theorem T_kd_end {b : Nat → Int32} {n k : Nat} (h : n ≤ k) : (T_kd b n k).toInt = 0 := by
  have h1 : n ≤ t_P b n k := by
    have m : ∀ d, t_P b n n ≤ t_P b n (n + d) := fun d => by
      induction d with
      | zero => exact Nat.le_refl _
      | succ d ih => exact Nat.le_trans ih t_P_mono
    have i := t_P_ge (b := b) (n := n) n (Nat.le_refl n)
    have j := m (k - n)
    rw [show n + (k - n) = k by omega] at j
    omega
  have h2 : ¬ t_s b n k < n := by
    have g := t_sk_ge (b := b) (n := n) (a := t_P b n k)
    rw [t_s_def]
    omega
  unfold T_kd t_kd
  rw [if_neg h2]
  decide +kernel
theorem t_own_hit {b : Nat → Int32} {s e w : Nat} (hw : w < 27) (h : ∀ j, j < w → t_mt b s e j = false) (h1 : t_mt b s e w = true) : t_own b s e = (w : Int) := by
  have q : (List.range 27).find? (fun j => t_mt b s e j) = some w := List.find?_range_eq_some.mpr ⟨h1, List.mem_range.mpr hw, fun j hj => by show (!t_mt b s e j) = true; rw [h j hj]; rfl⟩
  unfold t_own
  rw [q]
theorem t_own_no {b : Nat → Int32} {s e : Nat} (h : ∀ j, j < 27 → t_mt b s e j = false) : t_own b s e = -1 := by
  have q : (List.range 27).find? (fun j => t_mt b s e j) = none := List.find?_range_eq_none.mpr fun j hj => by show (!t_mt b s e j) = true; rw [h j hj]; rfl
  unfold t_own
  rw [q]
theorem t_mt_iff {b : Nat → Int32} {s e j : Nat} : t_mt b s e j = true ↔ ∀ i, i < 6 → t_ch b s e i = (t_words.getD j []).getD i 0 := by
  unfold t_mt
  rw [List.all_eq_true]
  constructor
  · intro h i hi
    exact of_decide_eq_true (h i (List.mem_range.mpr hi))
  · intro h i hi
    exact decide_eq_true (h i (List.mem_range.mp hi))
/-- how many of the first places are alike -/
def t_sm (b : Nat → Int32) (s e j : Nat) : Nat → Nat
  | 0 => 0
  | i + 1 => t_sm b s e j i + if t_ch b s e i = (t_words.getD j []).getD i 0 then 1 else 0
theorem t_sm_le {b : Nat → Int32} {s e j : Nat} : ∀ n, t_sm b s e j n ≤ n
  | 0 => Nat.le_refl 0
  | n + 1 => by
    have h := t_sm_le (b := b) (s := s) (e := e) (j := j) n
    unfold t_sm
    split <;> omega
theorem t_sm_all {b : Nat → Int32} {s e j : Nat} : ∀ n, t_sm b s e j n = n ↔ ∀ i, i < n → t_ch b s e i = (t_words.getD j []).getD i 0
  | 0 => ⟨fun _ i hi => absurd hi (Nat.not_lt_zero i), fun _ => rfl⟩
  | n + 1 => by
    have h := t_sm_all (b := b) (s := s) (e := e) (j := j) n
    have l := t_sm_le (b := b) (s := s) (e := e) (j := j) n
    show t_sm b s e j n + (if t_ch b s e n = (t_words.getD j []).getD n 0 then 1 else 0) = n + 1 ↔ _
    by_cases q : t_ch b s e n = (t_words.getD j []).getD n 0
    · rw [if_pos q]
      constructor
      · intro a i hi
        by_cases z : i = n
        · rw [z]
          exact q
        · exact h.mp (by omega) i (by omega)
      · intro a
        have := h.mpr fun i hi => a i (by omega)
        omega
    · rw [if_neg q]
      constructor
      · intro a
        omega
      · intro a
        exact absurd (a n (by omega)) q
theorem t_mt_sm {b : Nat → Int32} {s e j : Nat} : t_mt b s e j = true ↔ t_sm b s e j 6 = 6 := t_mt_iff.trans (t_sm_all 6).symm
