/-! the reference: the next cell by a way -/
section MB
variable {S : dg_S} {o : Nat} {a b : Int32}
theorem mx_b7 (w1 : b = (1 : Int32)) (e : F_m_isCell o S ((a - a / (8 : Int32) * (8 : Int32)) + (1 : Int32)) (a / (8 : Int32)) = 1) : F_m_besideOf o S a b = (8 : Int32) * (a / (8 : Int32)) + ((a - a / (8 : Int32) * (8 : Int32)) + (1 : Int32)) := by
  have n1 : ¬ F_m_isCell o S ((a - a / (8 : Int32) * (8 : Int32)) + (1 : Int32)) (a / (8 : Int32)) = (0 : Int32) := by
    rw [e]
    decide +kernel
  exact F_m_besideOf_p7 rfl w1 rfl rfl rfl n1 rfl rfl
theorem mx_b6 (w1 : b = (1 : Int32)) (e : F_m_isCell o S ((a - a / (8 : Int32) * (8 : Int32)) + (1 : Int32)) (a / (8 : Int32)) = 0) : F_m_besideOf o S a b = (-1 : Int32) := F_m_besideOf_p6 rfl w1 rfl rfl rfl e
theorem mx_b5 (w1 : ¬ b = (1 : Int32)) (w3 : b = (3 : Int32)) (e : F_m_isCell o S ((a - a / (8 : Int32) * (8 : Int32)) + (-1 : Int32)) (a / (8 : Int32)) = 1) : F_m_besideOf o S a b = (8 : Int32) * (a / (8 : Int32)) + ((a - a / (8 : Int32) * (8 : Int32)) + (-1 : Int32)) := by
  have n1 : ¬ F_m_isCell o S ((a - a / (8 : Int32) * (8 : Int32)) + (-1 : Int32)) (a / (8 : Int32)) = (0 : Int32) := by
    rw [e]
    decide +kernel
  exact F_m_besideOf_p5 rfl w1 w3 rfl rfl rfl n1 rfl rfl
theorem mx_b4 (w1 : ¬ b = (1 : Int32)) (w3 : b = (3 : Int32)) (e : F_m_isCell o S ((a - a / (8 : Int32) * (8 : Int32)) + (-1 : Int32)) (a / (8 : Int32)) = 0) : F_m_besideOf o S a b = (-1 : Int32) := F_m_besideOf_p4 rfl w1 w3 rfl rfl rfl e
theorem mx_b3 (w1 : ¬ b = (1 : Int32)) (w3 : ¬ b = (3 : Int32)) (w2 : b = (2 : Int32)) (e : F_m_isCell o S (a - a / (8 : Int32) * (8 : Int32)) ((a / (8 : Int32)) + (1 : Int32)) = 1) : F_m_besideOf o S a b = (8 : Int32) * ((a / (8 : Int32)) + (1 : Int32)) + (a - a / (8 : Int32) * (8 : Int32)) := by
  have n1 : ¬ F_m_isCell o S (a - a / (8 : Int32) * (8 : Int32)) ((a / (8 : Int32)) + (1 : Int32)) = (0 : Int32) := by
    rw [e]
    decide +kernel
  exact F_m_besideOf_p3 rfl w1 w3 rfl w2 rfl rfl n1 rfl rfl
theorem mx_b2 (w1 : ¬ b = (1 : Int32)) (w3 : ¬ b = (3 : Int32)) (w2 : b = (2 : Int32)) (e : F_m_isCell o S (a - a / (8 : Int32) * (8 : Int32)) ((a / (8 : Int32)) + (1 : Int32)) = 0) : F_m_besideOf o S a b = (-1 : Int32) := F_m_besideOf_p2 rfl w1 w3 rfl w2 rfl rfl e
theorem mx_b1 (w1 : ¬ b = (1 : Int32)) (w3 : ¬ b = (3 : Int32)) (w2 : ¬ b = (2 : Int32)) (e : F_m_isCell o S (a - a / (8 : Int32) * (8 : Int32)) ((a / (8 : Int32)) + (-1 : Int32)) = 1) : F_m_besideOf o S a b = (8 : Int32) * ((a / (8 : Int32)) + (-1 : Int32)) + (a - a / (8 : Int32) * (8 : Int32)) := by
  have n1 : ¬ F_m_isCell o S (a - a / (8 : Int32) * (8 : Int32)) ((a / (8 : Int32)) + (-1 : Int32)) = (0 : Int32) := by
    rw [e]
    decide +kernel
  exact F_m_besideOf_p1 rfl w1 w3 rfl w2 rfl rfl n1 rfl rfl
theorem mx_b0 (w1 : ¬ b = (1 : Int32)) (w3 : ¬ b = (3 : Int32)) (w2 : ¬ b = (2 : Int32)) (e : F_m_isCell o S (a - a / (8 : Int32) * (8 : Int32)) ((a / (8 : Int32)) + (-1 : Int32)) = 0) : F_m_besideOf o S a b = (-1 : Int32) := F_m_besideOf_p0 rfl w1 w3 rfl w2 rfl rfl e
end MB
