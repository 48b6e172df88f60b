section
/-! a decode row by its opcode: what the bytes there are -/
theorem dk_drop {α : Type} : ∀ {l : List α} {p : Nat} {x : α} {t : List α}, l.drop p = x :: t → l.drop (p + 1) = t
  | [], p, x, t, h => by simp at h
  | a :: l, 0, x, t, h => by
    simp only [List.drop_zero, List.cons.injEq] at h
    exact h.2
  | a :: l, p + 1, x, t, h => dk_drop (l := l) (p := p) h
theorem dk_dropG {α : Type} : ∀ {l : List α} {p : Nat} {x : α} {t : List α}, l.drop p = x :: t → ∃ h : p < l.length, l[p] = x
  | [], p, x, t, h => by simp at h
  | a :: l, 0, x, t, h => by
    simp only [List.drop_zero, List.cons.injEq] at h
    exact ⟨by simp, h.1⟩
  | a :: l, p + 1, x, t, h => by
    obtain ⟨h1, h2⟩ := dk_dropG (l := l) (p := p) h
    exact ⟨by simpa using h1, by simpa using h2⟩
theorem dk_u1_at {c : ByteArray} {p : Nat} {x : UInt8} {t : List UInt8} (h : c.data.toList.drop p = x :: t) : (Reader.u1 : Decoder Nat) c p = .ok (x.toNat, p + 1) := by
  obtain ⟨h1, h2⟩ := dk_dropG h
  have hl : p < c.size := by
    show p < c.data.size
    rw [← Array.length_toList]
    exact h1
  have hx : c[p] = x := by
    show c.data[p] = x
    rw [← Array.getElem_toList]
    exact h2
  have e : (Reader.u1 : Decoder Nat) c p = (if h : p < c.size then (do set (p + 1); pure (c[p]).toNat : Decoder Nat) else throw (HasTruncated.truncated p)) c p := rfl
  rw [e, dif_pos hl, hx]
  rfl
theorem dk_bd {α β : Type} {m : Decoder α} {F : α → Decoder β} {c : ByteArray} {p q : Nat} {a : α} (h : m c p = .ok (a, q)) : (bind m F) c p = F a c q := by
  have e : (bind m F) c p = Except.bind (m c p) (fun x => F x.1 c x.2) := rfl
  rw [e, h]
  rfl
theorem dk_mp {α β : Type} {m : Decoder α} {f : α → β} {c : ByteArray} {p q : Nat} {a : α} (h : m c p = .ok (a, q)) : (f <$> m : Decoder β) c p = .ok (f a, q) := by
  have e : (f <$> m : Decoder β) c p = Except.bind (m c p) (fun x => .ok (f x.1, x.2)) := rfl
  rw [e, h]
  rfl
theorem dk_u2_at {c : ByteArray} {p : Nat} {x y : UInt8} {t : List UInt8} (h : c.data.toList.drop p = x :: y :: t) : (Reader.u2 : Decoder Nat) c p = .ok (x.toNat * 256 + y.toNat, p + 2) := by
  unfold Reader.u2
  exact (dk_bd (dk_u1_at h)).trans (dk_bd (dk_u1_at (dk_drop h)))
theorem dk_fin {c : ByteArray} {pc n : Nat} {i : Instr} (h : (Decoder.instr pc) c pc = .ok (i, pc + n)) : decode c pc = .ok (i, n) := by
  have e : decode c pc = Except.bind ((Decoder.instr pc) c pc) (fun x => .ok (x.1, x.2 - pc)) := rfl
  rw [e, h]
  show Except.ok (i, pc + n - pc) = _
  rw [Nat.add_sub_cancel_left]
def dk_c1 (c : ByteArray) (pc a : Nat) : Bool := match c.data.toList.drop pc with
  | x :: _ => Nat.beq x.toNat a
  | _ => false
def dk_c2 (c : ByteArray) (pc a i : Nat) : Bool := match c.data.toList.drop pc with
  | x :: y :: _ => Nat.beq x.toNat a && Nat.beq y.toNat i
  | _ => false
def dk_c2s (c : ByteArray) (pc a : Nat) (i : Int) : Bool := match c.data.toList.drop pc with
  | x :: y :: _ => Nat.beq x.toNat a && decide (Reader.signed 8 y.toNat = i)
  | _ => false
def dk_c3 (c : ByteArray) (pc a i : Nat) : Bool := match c.data.toList.drop pc with
  | x :: y :: z :: _ => Nat.beq x.toNat a && Nat.beq (y.toNat * 256 + z.toNat) i
  | _ => false
def dk_c3s (c : ByteArray) (pc a : Nat) (i : Int) : Bool := match c.data.toList.drop pc with
  | x :: y :: z :: _ => Nat.beq x.toNat a && decide (Reader.signed 16 (y.toNat * 256 + z.toNat) = i)
  | _ => false
def dk_cus (c : ByteArray) (pc a k : Nat) (i : Int) : Bool := match c.data.toList.drop pc with
  | x :: y :: z :: _ => Nat.beq x.toNat a && (Nat.beq y.toNat k && decide (Reader.signed 8 z.toNat = i))
  | _ => false

theorem dk_c1.o {c : ByteArray} {pc a : Nat} (h : dk_c1 c pc a = true) : (Reader.u1 : Decoder Nat) c pc = .ok (a, pc + 1) := by
  unfold dk_c1 at h
  split at h
  · rename_i x t hd
    rw [← Nat.eq_of_beq_eq_true h]
    exact dk_u1_at hd
  · cases h
theorem dk_c2.o {c : ByteArray} {pc a i : Nat} (h : dk_c2 c pc a i = true) : (Reader.u1 : Decoder Nat) c pc = .ok (a, pc + 1) ∧ (Reader.u1 : Decoder Nat) c (pc + 1) = .ok (i, pc + 2) := by
  unfold dk_c2 at h
  split at h
  · rename_i x y t hd
    rw [Bool.and_eq_true] at h
    rw [← Nat.eq_of_beq_eq_true h.1, ← Nat.eq_of_beq_eq_true h.2]
    exact ⟨dk_u1_at hd, dk_u1_at (dk_drop hd)⟩
  · cases h
theorem dk_c2s.o {c : ByteArray} {pc a : Nat} {i : Int} (h : dk_c2s c pc a i = true) : (Reader.u1 : Decoder Nat) c pc = .ok (a, pc + 1) ∧ (Reader.s1 : Decoder Int) c (pc + 1) = .ok (i, pc + 2) := by
  unfold dk_c2s at h
  split at h
  · rename_i x y t hd
    rw [Bool.and_eq_true] at h
    rw [← Nat.eq_of_beq_eq_true h.1, ← of_decide_eq_true h.2]
    exact ⟨dk_u1_at hd, dk_mp (dk_u1_at (dk_drop hd))⟩
  · cases h
theorem dk_c3.o {c : ByteArray} {pc a i : Nat} (h : dk_c3 c pc a i = true) : (Reader.u1 : Decoder Nat) c pc = .ok (a, pc + 1) ∧ (Reader.u2 : Decoder Nat) c (pc + 1) = .ok (i, pc + 3) := by
  unfold dk_c3 at h
  split at h
  · rename_i x y z t hd
    rw [Bool.and_eq_true] at h
    rw [← Nat.eq_of_beq_eq_true h.1, ← Nat.eq_of_beq_eq_true h.2]
    exact ⟨dk_u1_at hd, dk_u2_at (dk_drop hd)⟩
  · cases h
theorem dk_c3s.o {c : ByteArray} {pc a : Nat} {i : Int} (h : dk_c3s c pc a i = true) : (Reader.u1 : Decoder Nat) c pc = .ok (a, pc + 1) ∧ (Reader.s2 : Decoder Int) c (pc + 1) = .ok (i, pc + 3) := by
  unfold dk_c3s at h
  split at h
  · rename_i x y z t hd
    rw [Bool.and_eq_true] at h
    rw [← Nat.eq_of_beq_eq_true h.1, ← of_decide_eq_true h.2]
    exact ⟨dk_u1_at hd, dk_mp (dk_u2_at (dk_drop hd))⟩
  · cases h
theorem dk_cus.o {c : ByteArray} {pc a k : Nat} {i : Int} (h : dk_cus c pc a k i = true) : (Reader.u1 : Decoder Nat) c pc = .ok (a, pc + 1) ∧ (Reader.u1 : Decoder Nat) c (pc + 1) = .ok (k, pc + 2) ∧ (Reader.s1 : Decoder Int) c (pc + 2) = .ok (i, pc + 3) := by
  unfold dk_cus at h
  split at h
  · rename_i x y z t hd
    rw [Bool.and_eq_true, Bool.and_eq_true] at h
    rw [← Nat.eq_of_beq_eq_true h.1, ← Nat.eq_of_beq_eq_true h.2.1, ← of_decide_eq_true h.2.2]
    exact ⟨dk_u1_at hd, dk_u1_at (dk_drop hd), dk_mp (dk_u1_at (dk_drop (dk_drop hd)))⟩
  · cases h

theorem dk_o2 {c : ByteArray} {pc : Nat} (h : dk_c1 c pc 2 = true) : decode c pc = .ok (.iconst (-1), 1) := dk_fin (by
  unfold Decoder.instr
  exact dk_bd (dk_c1.o h))
theorem dk_o3 {c : ByteArray} {pc : Nat} (h : dk_c1 c pc 3 = true) : decode c pc = .ok (.iconst 0, 1) := dk_fin (by
  unfold Decoder.instr
  exact dk_bd (dk_c1.o h))
theorem dk_o4 {c : ByteArray} {pc : Nat} (h : dk_c1 c pc 4 = true) : decode c pc = .ok (.iconst 1, 1) := dk_fin (by
  unfold Decoder.instr
  exact dk_bd (dk_c1.o h))
theorem dk_o5 {c : ByteArray} {pc : Nat} (h : dk_c1 c pc 5 = true) : decode c pc = .ok (.iconst 2, 1) := dk_fin (by
  unfold Decoder.instr
  exact dk_bd (dk_c1.o h))
theorem dk_o6 {c : ByteArray} {pc : Nat} (h : dk_c1 c pc 6 = true) : decode c pc = .ok (.iconst 3, 1) := dk_fin (by
  unfold Decoder.instr
  exact dk_bd (dk_c1.o h))
theorem dk_o7 {c : ByteArray} {pc : Nat} (h : dk_c1 c pc 7 = true) : decode c pc = .ok (.iconst 4, 1) := dk_fin (by
  unfold Decoder.instr
  exact dk_bd (dk_c1.o h))
theorem dk_o8 {c : ByteArray} {pc : Nat} (h : dk_c1 c pc 8 = true) : decode c pc = .ok (.iconst 5, 1) := dk_fin (by
  unfold Decoder.instr
  exact dk_bd (dk_c1.o h))
theorem dk_o9 {c : ByteArray} {pc : Nat} (h : dk_c1 c pc 9 = true) : decode c pc = .ok (.lconst 0, 1) := dk_fin (by
  unfold Decoder.instr
  exact dk_bd (dk_c1.o h))
theorem dk_o10 {c : ByteArray} {pc : Nat} (h : dk_c1 c pc 10 = true) : decode c pc = .ok (.lconst 1, 1) := dk_fin (by
  unfold Decoder.instr
  exact dk_bd (dk_c1.o h))
theorem dk_o16 {c : ByteArray} {pc : Nat} {i : Int} (h : dk_c2s c pc 16 i = true) : decode c pc = .ok (.bipush i, 2) := dk_fin (by
  unfold Decoder.instr
  exact (dk_bd (dk_c2s.o h).1).trans (dk_bd (dk_c2s.o h).2))
theorem dk_o17 {c : ByteArray} {pc : Nat} {i : Int} (h : dk_c3s c pc 17 i = true) : decode c pc = .ok (.sipush i, 3) := dk_fin (by
  unfold Decoder.instr
  exact (dk_bd (dk_c3s.o h).1).trans (dk_bd (dk_c3s.o h).2))
theorem dk_o18 {c : ByteArray} {pc : Nat} {i : Nat} (h : dk_c2 c pc 18 i = true) : decode c pc = .ok (.ldc i, 2) := dk_fin (by
  unfold Decoder.instr
  exact (dk_bd (dk_c2.o h).1).trans (dk_bd (dk_c2.o h).2))
theorem dk_o19 {c : ByteArray} {pc : Nat} {i : Nat} (h : dk_c3 c pc 19 i = true) : decode c pc = .ok (.ldc_w i, 3) := dk_fin (by
  unfold Decoder.instr
  exact (dk_bd (dk_c3.o h).1).trans (dk_bd (dk_c3.o h).2))
theorem dk_o20 {c : ByteArray} {pc : Nat} {i : Nat} (h : dk_c3 c pc 20 i = true) : decode c pc = .ok (.ldc2_w i, 3) := dk_fin (by
  unfold Decoder.instr
  exact (dk_bd (dk_c3.o h).1).trans (dk_bd (dk_c3.o h).2))
theorem dk_o21 {c : ByteArray} {pc : Nat} {i : Nat} (h : dk_c2 c pc 21 i = true) : decode c pc = .ok (.iload i, 2) := dk_fin (by
  unfold Decoder.instr
  exact (dk_bd (dk_c2.o h).1).trans (dk_bd (dk_c2.o h).2))
theorem dk_o22 {c : ByteArray} {pc : Nat} {i : Nat} (h : dk_c2 c pc 22 i = true) : decode c pc = .ok (.lload i, 2) := dk_fin (by
  unfold Decoder.instr
  exact (dk_bd (dk_c2.o h).1).trans (dk_bd (dk_c2.o h).2))
theorem dk_o25 {c : ByteArray} {pc : Nat} {i : Nat} (h : dk_c2 c pc 25 i = true) : decode c pc = .ok (.aload i, 2) := dk_fin (by
  unfold Decoder.instr
  exact (dk_bd (dk_c2.o h).1).trans (dk_bd (dk_c2.o h).2))
theorem dk_o26 {c : ByteArray} {pc : Nat} (h : dk_c1 c pc 26 = true) : decode c pc = .ok (.iload_n 0, 1) := dk_fin (by
  unfold Decoder.instr
  exact dk_bd (dk_c1.o h))
theorem dk_o27 {c : ByteArray} {pc : Nat} (h : dk_c1 c pc 27 = true) : decode c pc = .ok (.iload_n 1, 1) := dk_fin (by
  unfold Decoder.instr
  exact dk_bd (dk_c1.o h))
theorem dk_o28 {c : ByteArray} {pc : Nat} (h : dk_c1 c pc 28 = true) : decode c pc = .ok (.iload_n 2, 1) := dk_fin (by
  unfold Decoder.instr
  exact dk_bd (dk_c1.o h))
theorem dk_o29 {c : ByteArray} {pc : Nat} (h : dk_c1 c pc 29 = true) : decode c pc = .ok (.iload_n 3, 1) := dk_fin (by
  unfold Decoder.instr
  exact dk_bd (dk_c1.o h))
theorem dk_o30 {c : ByteArray} {pc : Nat} (h : dk_c1 c pc 30 = true) : decode c pc = .ok (.lload_n 0, 1) := dk_fin (by
  unfold Decoder.instr
  exact dk_bd (dk_c1.o h))
theorem dk_o31 {c : ByteArray} {pc : Nat} (h : dk_c1 c pc 31 = true) : decode c pc = .ok (.lload_n 1, 1) := dk_fin (by
  unfold Decoder.instr
  exact dk_bd (dk_c1.o h))
theorem dk_o32 {c : ByteArray} {pc : Nat} (h : dk_c1 c pc 32 = true) : decode c pc = .ok (.lload_n 2, 1) := dk_fin (by
  unfold Decoder.instr
  exact dk_bd (dk_c1.o h))
theorem dk_o33 {c : ByteArray} {pc : Nat} (h : dk_c1 c pc 33 = true) : decode c pc = .ok (.lload_n 3, 1) := dk_fin (by
  unfold Decoder.instr
  exact dk_bd (dk_c1.o h))
theorem dk_o42 {c : ByteArray} {pc : Nat} (h : dk_c1 c pc 42 = true) : decode c pc = .ok (.aload_n 0, 1) := dk_fin (by
  unfold Decoder.instr
  exact dk_bd (dk_c1.o h))
theorem dk_o43 {c : ByteArray} {pc : Nat} (h : dk_c1 c pc 43 = true) : decode c pc = .ok (.aload_n 1, 1) := dk_fin (by
  unfold Decoder.instr
  exact dk_bd (dk_c1.o h))
theorem dk_o44 {c : ByteArray} {pc : Nat} (h : dk_c1 c pc 44 = true) : decode c pc = .ok (.aload_n 2, 1) := dk_fin (by
  unfold Decoder.instr
  exact dk_bd (dk_c1.o h))
theorem dk_o45 {c : ByteArray} {pc : Nat} (h : dk_c1 c pc 45 = true) : decode c pc = .ok (.aload_n 3, 1) := dk_fin (by
  unfold Decoder.instr
  exact dk_bd (dk_c1.o h))
theorem dk_o46 {c : ByteArray} {pc : Nat} (h : dk_c1 c pc 46 = true) : decode c pc = .ok (.iaload, 1) := dk_fin (by
  unfold Decoder.instr
  exact dk_bd (dk_c1.o h))
theorem dk_o47 {c : ByteArray} {pc : Nat} (h : dk_c1 c pc 47 = true) : decode c pc = .ok (.laload, 1) := dk_fin (by
  unfold Decoder.instr
  exact dk_bd (dk_c1.o h))
theorem dk_o50 {c : ByteArray} {pc : Nat} (h : dk_c1 c pc 50 = true) : decode c pc = .ok (.aaload, 1) := dk_fin (by
  unfold Decoder.instr
  exact dk_bd (dk_c1.o h))
theorem dk_o51 {c : ByteArray} {pc : Nat} (h : dk_c1 c pc 51 = true) : decode c pc = .ok (.baload, 1) := dk_fin (by
  unfold Decoder.instr
  exact dk_bd (dk_c1.o h))
theorem dk_o54 {c : ByteArray} {pc : Nat} {i : Nat} (h : dk_c2 c pc 54 i = true) : decode c pc = .ok (.istore i, 2) := dk_fin (by
  unfold Decoder.instr
  exact (dk_bd (dk_c2.o h).1).trans (dk_bd (dk_c2.o h).2))
theorem dk_o55 {c : ByteArray} {pc : Nat} {i : Nat} (h : dk_c2 c pc 55 i = true) : decode c pc = .ok (.lstore i, 2) := dk_fin (by
  unfold Decoder.instr
  exact (dk_bd (dk_c2.o h).1).trans (dk_bd (dk_c2.o h).2))
theorem dk_o58 {c : ByteArray} {pc : Nat} {i : Nat} (h : dk_c2 c pc 58 i = true) : decode c pc = .ok (.astore i, 2) := dk_fin (by
  unfold Decoder.instr
  exact (dk_bd (dk_c2.o h).1).trans (dk_bd (dk_c2.o h).2))
theorem dk_o59 {c : ByteArray} {pc : Nat} (h : dk_c1 c pc 59 = true) : decode c pc = .ok (.istore_n 0, 1) := dk_fin (by
  unfold Decoder.instr
  exact dk_bd (dk_c1.o h))
theorem dk_o60 {c : ByteArray} {pc : Nat} (h : dk_c1 c pc 60 = true) : decode c pc = .ok (.istore_n 1, 1) := dk_fin (by
  unfold Decoder.instr
  exact dk_bd (dk_c1.o h))
theorem dk_o61 {c : ByteArray} {pc : Nat} (h : dk_c1 c pc 61 = true) : decode c pc = .ok (.istore_n 2, 1) := dk_fin (by
  unfold Decoder.instr
  exact dk_bd (dk_c1.o h))
theorem dk_o62 {c : ByteArray} {pc : Nat} (h : dk_c1 c pc 62 = true) : decode c pc = .ok (.istore_n 3, 1) := dk_fin (by
  unfold Decoder.instr
  exact dk_bd (dk_c1.o h))
theorem dk_o64 {c : ByteArray} {pc : Nat} (h : dk_c1 c pc 64 = true) : decode c pc = .ok (.lstore_n 1, 1) := dk_fin (by
  unfold Decoder.instr
  exact dk_bd (dk_c1.o h))
theorem dk_o66 {c : ByteArray} {pc : Nat} (h : dk_c1 c pc 66 = true) : decode c pc = .ok (.lstore_n 3, 1) := dk_fin (by
  unfold Decoder.instr
  exact dk_bd (dk_c1.o h))
theorem dk_o76 {c : ByteArray} {pc : Nat} (h : dk_c1 c pc 76 = true) : decode c pc = .ok (.astore_n 1, 1) := dk_fin (by
  unfold Decoder.instr
  exact dk_bd (dk_c1.o h))
theorem dk_o77 {c : ByteArray} {pc : Nat} (h : dk_c1 c pc 77 = true) : decode c pc = .ok (.astore_n 2, 1) := dk_fin (by
  unfold Decoder.instr
  exact dk_bd (dk_c1.o h))
theorem dk_o78 {c : ByteArray} {pc : Nat} (h : dk_c1 c pc 78 = true) : decode c pc = .ok (.astore_n 3, 1) := dk_fin (by
  unfold Decoder.instr
  exact dk_bd (dk_c1.o h))
theorem dk_o79 {c : ByteArray} {pc : Nat} (h : dk_c1 c pc 79 = true) : decode c pc = .ok (.iastore, 1) := dk_fin (by
  unfold Decoder.instr
  exact dk_bd (dk_c1.o h))
theorem dk_o80 {c : ByteArray} {pc : Nat} (h : dk_c1 c pc 80 = true) : decode c pc = .ok (.lastore, 1) := dk_fin (by
  unfold Decoder.instr
  exact dk_bd (dk_c1.o h))
theorem dk_o83 {c : ByteArray} {pc : Nat} (h : dk_c1 c pc 83 = true) : decode c pc = .ok (.aastore, 1) := dk_fin (by
  unfold Decoder.instr
  exact dk_bd (dk_c1.o h))
theorem dk_o84 {c : ByteArray} {pc : Nat} (h : dk_c1 c pc 84 = true) : decode c pc = .ok (.bastore, 1) := dk_fin (by
  unfold Decoder.instr
  exact dk_bd (dk_c1.o h))
theorem dk_o87 {c : ByteArray} {pc : Nat} (h : dk_c1 c pc 87 = true) : decode c pc = .ok (.pop, 1) := dk_fin (by
  unfold Decoder.instr
  exact dk_bd (dk_c1.o h))
theorem dk_o89 {c : ByteArray} {pc : Nat} (h : dk_c1 c pc 89 = true) : decode c pc = .ok (.dup, 1) := dk_fin (by
  unfold Decoder.instr
  exact dk_bd (dk_c1.o h))
theorem dk_o92 {c : ByteArray} {pc : Nat} (h : dk_c1 c pc 92 = true) : decode c pc = .ok (.dup2, 1) := dk_fin (by
  unfold Decoder.instr
  exact dk_bd (dk_c1.o h))
theorem dk_o96 {c : ByteArray} {pc : Nat} (h : dk_c1 c pc 96 = true) : decode c pc = .ok (.iadd, 1) := dk_fin (by
  unfold Decoder.instr
  exact dk_bd (dk_c1.o h))
theorem dk_o97 {c : ByteArray} {pc : Nat} (h : dk_c1 c pc 97 = true) : decode c pc = .ok (.ladd, 1) := dk_fin (by
  unfold Decoder.instr
  exact dk_bd (dk_c1.o h))
theorem dk_o100 {c : ByteArray} {pc : Nat} (h : dk_c1 c pc 100 = true) : decode c pc = .ok (.isub, 1) := dk_fin (by
  unfold Decoder.instr
  exact dk_bd (dk_c1.o h))
theorem dk_o101 {c : ByteArray} {pc : Nat} (h : dk_c1 c pc 101 = true) : decode c pc = .ok (.lsub, 1) := dk_fin (by
  unfold Decoder.instr
  exact dk_bd (dk_c1.o h))
theorem dk_o104 {c : ByteArray} {pc : Nat} (h : dk_c1 c pc 104 = true) : decode c pc = .ok (.imul, 1) := dk_fin (by
  unfold Decoder.instr
  exact dk_bd (dk_c1.o h))
theorem dk_o105 {c : ByteArray} {pc : Nat} (h : dk_c1 c pc 105 = true) : decode c pc = .ok (.lmul, 1) := dk_fin (by
  unfold Decoder.instr
  exact dk_bd (dk_c1.o h))
theorem dk_o108 {c : ByteArray} {pc : Nat} (h : dk_c1 c pc 108 = true) : decode c pc = .ok (.idiv, 1) := dk_fin (by
  unfold Decoder.instr
  exact dk_bd (dk_c1.o h))
theorem dk_o109 {c : ByteArray} {pc : Nat} (h : dk_c1 c pc 109 = true) : decode c pc = .ok (.ldiv, 1) := dk_fin (by
  unfold Decoder.instr
  exact dk_bd (dk_c1.o h))
theorem dk_o112 {c : ByteArray} {pc : Nat} (h : dk_c1 c pc 112 = true) : decode c pc = .ok (.irem, 1) := dk_fin (by
  unfold Decoder.instr
  exact dk_bd (dk_c1.o h))
theorem dk_o113 {c : ByteArray} {pc : Nat} (h : dk_c1 c pc 113 = true) : decode c pc = .ok (.lrem, 1) := dk_fin (by
  unfold Decoder.instr
  exact dk_bd (dk_c1.o h))
theorem dk_o120 {c : ByteArray} {pc : Nat} (h : dk_c1 c pc 120 = true) : decode c pc = .ok (.ishl, 1) := dk_fin (by
  unfold Decoder.instr
  exact dk_bd (dk_c1.o h))
theorem dk_o121 {c : ByteArray} {pc : Nat} (h : dk_c1 c pc 121 = true) : decode c pc = .ok (.lshl, 1) := dk_fin (by
  unfold Decoder.instr
  exact dk_bd (dk_c1.o h))
theorem dk_o122 {c : ByteArray} {pc : Nat} (h : dk_c1 c pc 122 = true) : decode c pc = .ok (.ishr, 1) := dk_fin (by
  unfold Decoder.instr
  exact dk_bd (dk_c1.o h))
theorem dk_o123 {c : ByteArray} {pc : Nat} (h : dk_c1 c pc 123 = true) : decode c pc = .ok (.lshr, 1) := dk_fin (by
  unfold Decoder.instr
  exact dk_bd (dk_c1.o h))
theorem dk_o124 {c : ByteArray} {pc : Nat} (h : dk_c1 c pc 124 = true) : decode c pc = .ok (.iushr, 1) := dk_fin (by
  unfold Decoder.instr
  exact dk_bd (dk_c1.o h))
theorem dk_o126 {c : ByteArray} {pc : Nat} (h : dk_c1 c pc 126 = true) : decode c pc = .ok (.iand, 1) := dk_fin (by
  unfold Decoder.instr
  exact dk_bd (dk_c1.o h))
theorem dk_o127 {c : ByteArray} {pc : Nat} (h : dk_c1 c pc 127 = true) : decode c pc = .ok (.land, 1) := dk_fin (by
  unfold Decoder.instr
  exact dk_bd (dk_c1.o h))
theorem dk_o128 {c : ByteArray} {pc : Nat} (h : dk_c1 c pc 128 = true) : decode c pc = .ok (.ior, 1) := dk_fin (by
  unfold Decoder.instr
  exact dk_bd (dk_c1.o h))
theorem dk_o129 {c : ByteArray} {pc : Nat} (h : dk_c1 c pc 129 = true) : decode c pc = .ok (.lor, 1) := dk_fin (by
  unfold Decoder.instr
  exact dk_bd (dk_c1.o h))
theorem dk_o130 {c : ByteArray} {pc : Nat} (h : dk_c1 c pc 130 = true) : decode c pc = .ok (.ixor, 1) := dk_fin (by
  unfold Decoder.instr
  exact dk_bd (dk_c1.o h))
theorem dk_o132 {c : ByteArray} {pc k : Nat} {i : Int} (h : dk_cus c pc 132 k i = true) : decode c pc = .ok (.iinc k i, 3) := dk_fin (by
  unfold Decoder.instr
  exact (dk_bd (dk_cus.o h).1).trans ((dk_bd (dk_cus.o h).2.1).trans (dk_bd (dk_cus.o h).2.2)))
theorem dk_o133 {c : ByteArray} {pc : Nat} (h : dk_c1 c pc 133 = true) : decode c pc = .ok (.i2l, 1) := dk_fin (by
  unfold Decoder.instr
  exact dk_bd (dk_c1.o h))
theorem dk_o136 {c : ByteArray} {pc : Nat} (h : dk_c1 c pc 136 = true) : decode c pc = .ok (.l2i, 1) := dk_fin (by
  unfold Decoder.instr
  exact dk_bd (dk_c1.o h))
theorem dk_o146 {c : ByteArray} {pc : Nat} (h : dk_c1 c pc 146 = true) : decode c pc = .ok (.i2c, 1) := dk_fin (by
  unfold Decoder.instr
  exact dk_bd (dk_c1.o h))
theorem dk_o148 {c : ByteArray} {pc : Nat} (h : dk_c1 c pc 148 = true) : decode c pc = .ok (.lcmp, 1) := dk_fin (by
  unfold Decoder.instr
  exact dk_bd (dk_c1.o h))
theorem dk_o153 {c : ByteArray} {pc : Nat} {i : Int} (h : dk_c3s c pc 153 i = true) : decode c pc = .ok (.ifCond .eq i, 3) := dk_fin (by
  unfold Decoder.instr
  exact (dk_bd (dk_c3s.o h).1).trans (dk_bd (dk_c3s.o h).2))
theorem dk_o154 {c : ByteArray} {pc : Nat} {i : Int} (h : dk_c3s c pc 154 i = true) : decode c pc = .ok (.ifCond .ne i, 3) := dk_fin (by
  unfold Decoder.instr
  exact (dk_bd (dk_c3s.o h).1).trans (dk_bd (dk_c3s.o h).2))
theorem dk_o155 {c : ByteArray} {pc : Nat} {i : Int} (h : dk_c3s c pc 155 i = true) : decode c pc = .ok (.ifCond .lt i, 3) := dk_fin (by
  unfold Decoder.instr
  exact (dk_bd (dk_c3s.o h).1).trans (dk_bd (dk_c3s.o h).2))
theorem dk_o156 {c : ByteArray} {pc : Nat} {i : Int} (h : dk_c3s c pc 156 i = true) : decode c pc = .ok (.ifCond .ge i, 3) := dk_fin (by
  unfold Decoder.instr
  exact (dk_bd (dk_c3s.o h).1).trans (dk_bd (dk_c3s.o h).2))
theorem dk_o157 {c : ByteArray} {pc : Nat} {i : Int} (h : dk_c3s c pc 157 i = true) : decode c pc = .ok (.ifCond .gt i, 3) := dk_fin (by
  unfold Decoder.instr
  exact (dk_bd (dk_c3s.o h).1).trans (dk_bd (dk_c3s.o h).2))
theorem dk_o158 {c : ByteArray} {pc : Nat} {i : Int} (h : dk_c3s c pc 158 i = true) : decode c pc = .ok (.ifCond .le i, 3) := dk_fin (by
  unfold Decoder.instr
  exact (dk_bd (dk_c3s.o h).1).trans (dk_bd (dk_c3s.o h).2))
theorem dk_o159 {c : ByteArray} {pc : Nat} {i : Int} (h : dk_c3s c pc 159 i = true) : decode c pc = .ok (.if_icmp .eq i, 3) := dk_fin (by
  unfold Decoder.instr
  exact (dk_bd (dk_c3s.o h).1).trans (dk_bd (dk_c3s.o h).2))
theorem dk_o160 {c : ByteArray} {pc : Nat} {i : Int} (h : dk_c3s c pc 160 i = true) : decode c pc = .ok (.if_icmp .ne i, 3) := dk_fin (by
  unfold Decoder.instr
  exact (dk_bd (dk_c3s.o h).1).trans (dk_bd (dk_c3s.o h).2))
theorem dk_o161 {c : ByteArray} {pc : Nat} {i : Int} (h : dk_c3s c pc 161 i = true) : decode c pc = .ok (.if_icmp .lt i, 3) := dk_fin (by
  unfold Decoder.instr
  exact (dk_bd (dk_c3s.o h).1).trans (dk_bd (dk_c3s.o h).2))
theorem dk_o162 {c : ByteArray} {pc : Nat} {i : Int} (h : dk_c3s c pc 162 i = true) : decode c pc = .ok (.if_icmp .ge i, 3) := dk_fin (by
  unfold Decoder.instr
  exact (dk_bd (dk_c3s.o h).1).trans (dk_bd (dk_c3s.o h).2))
theorem dk_o163 {c : ByteArray} {pc : Nat} {i : Int} (h : dk_c3s c pc 163 i = true) : decode c pc = .ok (.if_icmp .gt i, 3) := dk_fin (by
  unfold Decoder.instr
  exact (dk_bd (dk_c3s.o h).1).trans (dk_bd (dk_c3s.o h).2))
theorem dk_o164 {c : ByteArray} {pc : Nat} {i : Int} (h : dk_c3s c pc 164 i = true) : decode c pc = .ok (.if_icmp .le i, 3) := dk_fin (by
  unfold Decoder.instr
  exact (dk_bd (dk_c3s.o h).1).trans (dk_bd (dk_c3s.o h).2))
theorem dk_o167 {c : ByteArray} {pc : Nat} {i : Int} (h : dk_c3s c pc 167 i = true) : decode c pc = .ok (.goto i, 3) := dk_fin (by
  unfold Decoder.instr
  exact (dk_bd (dk_c3s.o h).1).trans (dk_bd (dk_c3s.o h).2))
theorem dk_o172 {c : ByteArray} {pc : Nat} (h : dk_c1 c pc 172 = true) : decode c pc = .ok (.ireturn, 1) := dk_fin (by
  unfold Decoder.instr
  exact dk_bd (dk_c1.o h))
theorem dk_o173 {c : ByteArray} {pc : Nat} (h : dk_c1 c pc 173 = true) : decode c pc = .ok (.lreturn, 1) := dk_fin (by
  unfold Decoder.instr
  exact dk_bd (dk_c1.o h))
theorem dk_o177 {c : ByteArray} {pc : Nat} (h : dk_c1 c pc 177 = true) : decode c pc = .ok (.return_, 1) := dk_fin (by
  unfold Decoder.instr
  exact dk_bd (dk_c1.o h))
theorem dk_o178 {c : ByteArray} {pc : Nat} {i : Nat} (h : dk_c3 c pc 178 i = true) : decode c pc = .ok (.getstatic i, 3) := dk_fin (by
  unfold Decoder.instr
  exact (dk_bd (dk_c3.o h).1).trans (dk_bd (dk_c3.o h).2))
theorem dk_o180 {c : ByteArray} {pc : Nat} {i : Nat} (h : dk_c3 c pc 180 i = true) : decode c pc = .ok (.getfield i, 3) := dk_fin (by
  unfold Decoder.instr
  exact (dk_bd (dk_c3.o h).1).trans (dk_bd (dk_c3.o h).2))
theorem dk_o181 {c : ByteArray} {pc : Nat} {i : Nat} (h : dk_c3 c pc 181 i = true) : decode c pc = .ok (.putfield i, 3) := dk_fin (by
  unfold Decoder.instr
  exact (dk_bd (dk_c3.o h).1).trans (dk_bd (dk_c3.o h).2))
theorem dk_o182 {c : ByteArray} {pc : Nat} {i : Nat} (h : dk_c3 c pc 182 i = true) : decode c pc = .ok (.invokevirtual i, 3) := dk_fin (by
  unfold Decoder.instr
  exact (dk_bd (dk_c3.o h).1).trans (dk_bd (dk_c3.o h).2))
theorem dk_o183 {c : ByteArray} {pc : Nat} {i : Nat} (h : dk_c3 c pc 183 i = true) : decode c pc = .ok (.invokespecial i, 3) := dk_fin (by
  unfold Decoder.instr
  exact (dk_bd (dk_c3.o h).1).trans (dk_bd (dk_c3.o h).2))
theorem dk_o184 {c : ByteArray} {pc : Nat} {i : Nat} (h : dk_c3 c pc 184 i = true) : decode c pc = .ok (.invokestatic i, 3) := dk_fin (by
  unfold Decoder.instr
  exact (dk_bd (dk_c3.o h).1).trans (dk_bd (dk_c3.o h).2))
theorem dk_o187 {c : ByteArray} {pc : Nat} {i : Nat} (h : dk_c3 c pc 187 i = true) : decode c pc = .ok (.new i, 3) := dk_fin (by
  unfold Decoder.instr
  exact (dk_bd (dk_c3.o h).1).trans (dk_bd (dk_c3.o h).2))
theorem dk_o189 {c : ByteArray} {pc : Nat} {i : Nat} (h : dk_c3 c pc 189 i = true) : decode c pc = .ok (.anewarray i, 3) := dk_fin (by
  unfold Decoder.instr
  exact (dk_bd (dk_c3.o h).1).trans (dk_bd (dk_c3.o h).2))
theorem dk_o190 {c : ByteArray} {pc : Nat} (h : dk_c1 c pc 190 = true) : decode c pc = .ok (.arraylength, 1) := dk_fin (by
  unfold Decoder.instr
  exact dk_bd (dk_c1.o h))
end
section
/-! a decided proposition as a plain term: '(by decide)' inside a long term costs 7 - 30 ms, this 1 ms -/
theorem dk_dq {p : Prop} [h : Decidable p] (e : decide p = true) : p := of_decide_eq_true e
theorem dk_inv2 {x : Int32} {n : Nat} (h : 0 ≤ x.toInt ∧ x.toInt < n) : vp_in x n := dk_inv h.1 h.2
theorem dk_znar2 {x : Int32} (h : 0 ≤ x.toInt ∧ x.toInt ≤ 1) : narrow .boolean (.int x) = .int x := dk_znar h.1 h.2
theorem dk_addT2 {x y : Int32} {a b : Int} (hx : x.toInt = a) (hy : y.toInt = b) (h : -2147483648 ≤ a + b ∧ a + b < 2147483648) : (x + y).toInt = a + b := dk_addT hx hy h.1 h.2
theorem dk_subT2 {x y : Int32} {a b : Int} (hx : x.toInt = a) (hy : y.toInt = b) (h : -2147483648 ≤ a - b ∧ a - b < 2147483648) : (x - y).toInt = a - b := dk_subT hx hy h.1 h.2
theorem dk_mulT2 {x y : Int32} {a b : Int} (hx : x.toInt = a) (hy : y.toInt = b) (h : -2147483648 ≤ a * b ∧ a * b < 2147483648) : (x * y).toInt = a * b := dk_mulT hx hy h.1 h.2
end
section
/-! the language of a rule: two rows of tokens (kinds, values); what is taken from a token on -/
def g_s (kd vl : Nat → Int32) (c : Int) (k : Nat) : Bool := decide ((kd k).toInt = 4) && decide ((vl k).toInt = c)
def g_o (kd vl : Nat → Int32) (c : Int) (k : Nat) : Bool := decide ((kd k).toInt = 1) && decide ((vl k).toInt = c)
def g_n (kd : Nat → Int32) (k : Nat) : Bool := decide ((kd k).toInt = 3)
def g_so (kd vl : Nat → Int32) (k : Nat) : Bool := g_s kd vl 43 k || g_s kd vl 45 k
def g_po (kd vl : Nat → Int32) (k : Nat) : Bool := g_s kd vl 42 k || g_s kd vl 47 k || g_s kd vl 37 k
def g_co (kd vl : Nat → Int32) (k : Nat) : Bool := g_s kd vl 60 k || g_s kd vl 62 k || g_s kd vl 61 k
def g_fw (kd vl : Nat → Int32) (w : Int) (k : Nat) : Bool := g_o kd vl 5 k || g_o kd vl 15 k || g_o kd vl 16 k || (g_o kd vl 17 k && decide (w = 0)) || ((g_o kd vl 18 k || g_o kd vl 19 k) && !decide (w = 0))
def g_tk (kd vl : Nat → Int32) (c : Int) (k : Nat) : Option Nat := if g_s kd vl c k then some (k + 1) else none
/-- one thing, then more of them behind signs -/
def x_loop (op : Nat → Bool) (p : Nat → Option Nat) : Nat → Nat → Option Nat
  | 0, k => some k
  | f + 1, k => if op k then (p (k + 1)).bind (x_loop op p f) else some k
def x_pair (kd vl : Nat → Int32) (s : Nat → Option Nat) (k : Nat) : Option Nat := (s k).bind fun k1 => (g_tk kd vl 44 k1).bind fun k2 => (s k2).bind (g_tk kd vl 41)
/-- what stands behind if, behind min and max -/
def x_choice (kd vl : Nat → Int32) (s t : Nat → Option Nat) (k : Nat) : Option Nat := if g_s kd vl 40 (k + 1) then (t (k + 2)).bind fun k1 => (g_tk kd vl 44 k1).bind (x_pair kd vl s) else none
def x_prs (kd vl : Nat → Int32) (s : Nat → Option Nat) (k : Nat) : Option Nat := if g_s kd vl 40 (k + 1) then x_pair kd vl s (k + 2) else none
/-- a PART; s, t: what may stand in brackets there -/
def x_part (kd vl : Nat → Int32) (w : Int) (s t : Nat → Option Nat) (k : Nat) : Option Nat :=
  if g_s kd vl 40 k then (s (k + 1)).bind (g_tk kd vl 41)
  else if g_o kd vl 20 k then x_choice kd vl s t k
  else if g_o kd vl 25 k || g_o kd vl 26 k then x_prs kd vl s k
  else if g_n kd k || g_fw kd vl w k then some (k + 1) else none
def x_prod (kd vl : Nat → Int32) (p : Nat → Option Nat) (k : Nat) : Option Nat := (p k).bind (x_loop (g_po kd vl) p 1600)
def x_sum (kd vl : Nat → Int32) (p : Nat → Option Nat) (k : Nat) : Option Nat := (x_prod kd vl p k).bind (x_loop (g_so kd vl) (x_prod kd vl p) 1600)
def x_comp (kd vl : Nat → Int32) (s : Nat → Option Nat) (k : Nat) : Option Nat := (s k).bind fun k1 => if g_co kd vl k1 then s (k1 + 1) else none
/-- a FACT; f1, t1: FACT and TEST one bracket further in; s: a SUM here -/
def x_fact (kd vl : Nat → Int32) (f1 t1 s : Nat → Option Nat) (k : Nat) : Option Nat :=
  if g_o kd vl 23 k then f1 (k + 1)
  else if g_s kd vl 91 k then (t1 (k + 1)).bind (g_tk kd vl 93)
  else if g_o kd vl 24 k then some (k + 1)
  else x_comp kd vl s k
def x_both (kd vl : Nat → Int32) (f : Nat → Option Nat) (k : Nat) : Option Nat := (f k).bind (x_loop (g_o kd vl 22) f 1600)
def x_test (kd vl : Nat → Int32) (f : Nat → Option Nat) (k : Nat) : Option Nat := (x_both kd vl f k).bind (x_loop (g_o kd vl 21) (x_both kd vl f) 1600)
/-- SUM, TEST and FACT where e brackets may still be opened, less one -/
def x_lv (kd vl : Nat → Int32) (w : Int) : Nat → (Nat → Option Nat) × (Nat → Option Nat) × (Nat → Option Nat)
  | 0 => (fun _ => none, fun _ => none, fun _ => none)
  | e + 1 => (x_sum kd vl (x_part kd vl w (x_lv kd vl w e).1 (x_lv kd vl w e).2.1), x_test kd vl (x_fact kd vl (x_lv kd vl w e).2.2 (x_lv kd vl w e).2.1 (x_sum kd vl (x_part kd vl w (x_lv kd vl w e).1 (x_lv kd vl w e).2.1))), x_fact kd vl (x_lv kd vl w e).2.2 (x_lv kd vl w e).2.1 (x_sum kd vl (x_part kd vl w (x_lv kd vl w e).1 (x_lv kd vl w e).2.1)))
/-! what it takes ends further on, and loops end where no sign of theirs stands -/
theorem g_s_lt {kd vl : Nat → Int32} {N : Nat} (hN : ∀ k, N ≤ k → (kd k).toInt = 0) {c : Int} {k : Nat} (h : g_s kd vl c k = true) : k < N := by
  unfold g_s at h
  simp only [Bool.and_eq_true, decide_eq_true_eq] at h
  have h1 := hN k
  omega
theorem g_o_lt {kd vl : Nat → Int32} {N : Nat} (hN : ∀ k, N ≤ k → (kd k).toInt = 0) {c : Int} {k : Nat} (h : g_o kd vl c k = true) : k < N := by
  unfold g_o at h
  simp only [Bool.and_eq_true, decide_eq_true_eq] at h
  have h1 := hN k
  omega
theorem g_so_lt {kd vl : Nat → Int32} {N : Nat} (hN : ∀ k, N ≤ k → (kd k).toInt = 0) {k : Nat} (h : g_so kd vl k = true) : k < N := by
  unfold g_so at h
  simp only [Bool.or_eq_true] at h
  rcases h with h | h <;> exact g_s_lt hN h
theorem g_po_lt {kd vl : Nat → Int32} {N : Nat} (hN : ∀ k, N ≤ k → (kd k).toInt = 0) {k : Nat} (h : g_po kd vl k = true) : k < N := by
  unfold g_po at h
  simp only [Bool.or_eq_true] at h
  rcases h with (h | h) | h <;> exact g_s_lt hN h
theorem x_loop_in {op : Nat → Bool} {p : Nat → Option Nat} {f k k' : Nat} (h : x_loop op p (f + 1) k = some k') (ho : op k = true) : ∃ j, p (k + 1) = some j ∧ x_loop op p f j = some k' := by
  unfold x_loop at h
  rw [if_pos ho] at h
  cases hp : p (k + 1) with
  | none => rw [hp] at h; exact absurd h (by simp)
  | some j => rw [hp] at h; exact ⟨j, rfl, h⟩
theorem x_loop_out {op : Nat → Bool} {p : Nat → Option Nat} {f k : Nat} (ho : op k = false) : x_loop op p f k = some k := by
  cases f with
  | zero => rfl
  | succ f => unfold x_loop; rw [if_neg (by rw [ho]; decide)]
theorem x_loop_ex {op : Nat → Bool} {p : Nat → Option Nat} {N : Nat} {I : Nat → Prop} (hop : ∀ j, op j = true → j < N) (hp : ∀ j j', p j = some j' → j < j' ∧ I j') : ∀ (f k k' : Nat), N ≤ f + k → I k → x_loop op p f k = some k' → k ≤ k' ∧ op k' = false ∧ I k'
  | 0, k, k', hf, hI, h => by
    cases h
    refine ⟨Nat.le_refl _, ?_, hI⟩
    cases ho : op k with
    | false => rfl
    | true => exact absurd (hop k ho) (by omega)
  | f + 1, k, k', hf, hI, h => by
    cases ho : op k with
    | false =>
      rw [x_loop_out ho] at h
      cases h
      exact ⟨Nat.le_refl _, ho, hI⟩
    | true =>
      obtain ⟨j, h1, h2⟩ := x_loop_in h ho
      have h3 := hp _ _ h1
      have h4 := x_loop_ex hop hp f j k' (by omega) h3.2 h2
      exact ⟨by omega, h4.2⟩
theorem g_bind {a : Option Nat} {f : Nat → Option Nat} {k' : Nat} (h : a.bind f = some k') : ∃ j, a = some j ∧ f j = some k' := by
  cases a with
  | none => exact absurd h (by simp)
  | some j => exact ⟨j, rfl, h⟩
theorem g_tk_some {kd vl : Nat → Int32} {c : Int} {k k' : Nat} (h : g_tk kd vl c k = some k') : g_s kd vl c k = true ∧ k' = k + 1 := by
  unfold g_tk at h
  by_cases q : g_s kd vl c k = true
  · rw [if_pos q] at h
    cases h
    exact ⟨q, rfl⟩
  · rw [if_neg q] at h
    cases h
theorem g_tk_none {kd vl : Nat → Int32} {c : Int} {k : Nat} (h : g_tk kd vl c k = none) : g_s kd vl c k = false := by
  unfold g_tk at h
  cases q : g_s kd vl c k with
  | false => rfl
  | true => rw [if_pos q] at h; cases h
theorem x_pair_lt {kd vl : Nat → Int32} {s : Nat → Option Nat} (hs : ∀ j j', s j = some j' → j < j') {k k' : Nat} (h : x_pair kd vl s k = some k') : k < k' := by
  unfold x_pair at h
  obtain ⟨k1, h1, h⟩ := g_bind h
  obtain ⟨k2, h2, h⟩ := g_bind h
  obtain ⟨k3, h3, h⟩ := g_bind h
  have a1 := hs _ _ h1
  have a2 := (g_tk_some h2).2
  have a3 := hs _ _ h3
  have a4 := (g_tk_some h).2
  omega
theorem x_part_lt {kd vl : Nat → Int32} {w : Int} {s t : Nat → Option Nat} (hs : ∀ j j', s j = some j' → j < j') (ht : ∀ j j', t j = some j' → j < j') {k k' : Nat} (h : x_part kd vl w s t k = some k') : k < k' := by
  unfold x_part x_choice x_prs at h
  split at h
  · obtain ⟨k1, h1, h⟩ := g_bind h
    have a1 := hs _ _ h1
    have a2 := (g_tk_some h).2
    omega
  · split at h
    · split at h
      · obtain ⟨k1, h1, h⟩ := g_bind h
        obtain ⟨k2, h2, h⟩ := g_bind h
        have a1 := ht _ _ h1
        have a2 := (g_tk_some h2).2
        have a3 := x_pair_lt hs h
        omega
      · cases h
    · split at h
      · split at h
        · have a1 := x_pair_lt hs h
          omega
        · cases h
      · split at h
        · cases h
          omega
        · cases h
theorem x_prod_ex {kd vl : Nat → Int32} {N : Nat} (hN : ∀ k, N ≤ k → (kd k).toInt = 0) (hN2 : N ≤ 1600) {p : Nat → Option Nat} (hp : ∀ j j', p j = some j' → j < j') {k k' : Nat} (h : x_prod kd vl p k = some k') : k < k' ∧ g_po kd vl k' = false := by
  unfold x_prod at h
  obtain ⟨k1, h1, h⟩ := g_bind h
  have a1 := hp _ _ h1
  have a2 := x_loop_ex (I := fun _ => True) (fun j => g_po_lt hN) (fun j j' q => ⟨hp j j' q, trivial⟩) 1600 k1 k' (by omega) trivial h
  exact ⟨by omega, a2.2.1⟩
theorem x_sum_ex {kd vl : Nat → Int32} {N : Nat} (hN : ∀ k, N ≤ k → (kd k).toInt = 0) (hN2 : N ≤ 1600) {p : Nat → Option Nat} (hp : ∀ j j', p j = some j' → j < j') {k k' : Nat} (h : x_sum kd vl p k = some k') : k < k' ∧ g_so kd vl k' = false ∧ g_po kd vl k' = false := by
  unfold x_sum at h
  obtain ⟨k1, h1, h⟩ := g_bind h
  have a1 := x_prod_ex hN hN2 hp h1
  have a2 := x_loop_ex (I := fun j => g_po kd vl j = false) (fun j => g_so_lt hN) (fun j j' q => x_prod_ex hN hN2 hp q) 1600 k1 k' (by omega) a1.2 h
  exact ⟨by omega, a2.2⟩
theorem x_fact_lt {kd vl : Nat → Int32} {f1 t1 s : Nat → Option Nat} (hf : ∀ j j', f1 j = some j' → j < j') (ht : ∀ j j', t1 j = some j' → j < j') (hs : ∀ j j', s j = some j' → j < j') {k k' : Nat} (h : x_fact kd vl f1 t1 s k = some k') : k < k' := by
  unfold x_fact at h
  split at h
  · have a1 := hf _ _ h
    omega
  · split at h
    · obtain ⟨k1, h1, h⟩ := g_bind h
      have a1 := ht _ _ h1
      have a2 := (g_tk_some h).2
      omega
    · split at h
      · cases h
        omega
      · unfold x_comp at h
        obtain ⟨k1, h1, h⟩ := g_bind h
        have a1 := hs _ _ h1
        split at h
        · have a2 := hs _ _ h
          omega
        · cases h
theorem x_both_ex {kd vl : Nat → Int32} {N : Nat} (hN : ∀ k, N ≤ k → (kd k).toInt = 0) (hN2 : N ≤ 1600) {f : Nat → Option Nat} (hf : ∀ j j', f j = some j' → j < j') {k k' : Nat} (h : x_both kd vl f k = some k') : k < k' ∧ g_o kd vl 22 k' = false := by
  unfold x_both at h
  obtain ⟨k1, h1, h⟩ := g_bind h
  have a1 := hf _ _ h1
  have a2 := x_loop_ex (I := fun _ => True) (fun j => g_o_lt hN) (fun j j' q => ⟨hf j j' q, trivial⟩) 1600 k1 k' (by omega) trivial h
  exact ⟨by omega, a2.2.1⟩
theorem x_test_ex {kd vl : Nat → Int32} {N : Nat} (hN : ∀ k, N ≤ k → (kd k).toInt = 0) (hN2 : N ≤ 1600) {f : Nat → Option Nat} (hf : ∀ j j', f j = some j' → j < j') {k k' : Nat} (h : x_test kd vl f k = some k') : k < k' ∧ g_o kd vl 21 k' = false ∧ g_o kd vl 22 k' = false := by
  unfold x_test at h
  obtain ⟨k1, h1, h⟩ := g_bind h
  have a1 := x_both_ex hN hN2 hf h1
  have a2 := x_loop_ex (I := fun j => g_o kd vl 22 j = false) (fun j => g_o_lt hN) (fun j j' q => x_both_ex hN hN2 hf q) 1600 k1 k' (by omega) a1.2 h
  exact ⟨by omega, a2.2⟩
theorem x_lv_lt {kd vl : Nat → Int32} {w : Int} {N : Nat} (hN : ∀ k, N ≤ k → (kd k).toInt = 0) (hN2 : N ≤ 1600) : ∀ e : Nat, (∀ j j', (x_lv kd vl w e).1 j = some j' → j < j') ∧ (∀ j j', (x_lv kd vl w e).2.1 j = some j' → j < j') ∧ (∀ j j', (x_lv kd vl w e).2.2 j = some j' → j < j')
  | 0 => ⟨fun _ _ h => (by cases h), fun _ _ h => (by cases h), fun _ _ h => (by cases h)⟩
  | e + 1 => by
    obtain ⟨a, b, c⟩ := x_lv_lt hN hN2 e
    have hp : ∀ j j', x_part kd vl w (x_lv kd vl w e).1 (x_lv kd vl w e).2.1 j = some j' → j < j' := fun j j' h => x_part_lt a b h
    have hs : ∀ j j', x_sum kd vl (x_part kd vl w (x_lv kd vl w e).1 (x_lv kd vl w e).2.1) j = some j' → j < j' := fun j j' h => (x_sum_ex hN hN2 hp h).1
    have hf : ∀ j j', x_fact kd vl (x_lv kd vl w e).2.2 (x_lv kd vl w e).2.1 (x_sum kd vl (x_part kd vl w (x_lv kd vl w e).1 (x_lv kd vl w e).2.1)) j = some j' → j < j' := fun j j' h => x_fact_lt c b hs h
    exact ⟨hs, fun j j' h => (x_test_ex hN hN2 hf h).1, hf⟩
/-! what a method of the class's reader answers, and its loops -/
theorem g_iff_f {P : Prop} {b : Bool} (h : P ↔ b = true) (hn : ¬ P) : b = false := by
  cases b with
  | false => rfl
  | true => exact absurd (h.mpr rfl) hn
theorem g_s_iff {kd vl : Nat → Int32} {c : Int} {k : Nat} : g_s kd vl c k = true ↔ (kd k).toInt = 4 ∧ (vl k).toInt = c := by
  unfold g_s
  simp only [Bool.and_eq_true, decide_eq_true_eq]
theorem g_o_iff {kd vl : Nat → Int32} {c : Int} {k : Nat} : g_o kd vl c k = true ↔ (kd k).toInt = 1 ∧ (vl k).toInt = c := by
  unfold g_o
  simp only [Bool.and_eq_true, decide_eq_true_eq]
theorem g_n_iff {kd : Nat → Int32} {k : Nat} : g_n kd k = true ↔ (kd k).toInt = 3 := by
  unfold g_n
  simp only [decide_eq_true_eq]
theorem g_s_ne {kd vl : Nat → Int32} {c : Int} {k : Nat} (h : g_s kd vl c k = true) : (kd k).toInt ≠ 0 := by
  have h1 := g_s_iff.mp h
  omega
theorem g_o_ne {kd vl : Nat → Int32} {c : Int} {k : Nat} (h : g_o kd vl c k = true) : (kd k).toInt ≠ 0 := by
  have h1 := g_o_iff.mp h
  omega
theorem g_so_ne {kd vl : Nat → Int32} {k : Nat} (h : g_so kd vl k = true) : (kd k).toInt ≠ 0 := by
  unfold g_so at h
  simp only [Bool.or_eq_true] at h
  rcases h with h | h <;> exact g_s_ne h
theorem g_po_ne {kd vl : Nat → Int32} {k : Nat} (h : g_po kd vl k = true) : (kd k).toInt ≠ 0 := by
  unfold g_po at h
  simp only [Bool.or_eq_true] at h
  rcases h with (h | h) | h <;> exact g_s_ne h
theorem g_co_ne {kd vl : Nat → Int32} {k : Nat} (h : g_co kd vl k = true) : (kd k).toInt ≠ 0 := by
  unfold g_co at h
  simp only [Bool.or_eq_true] at h
  rcases h with (h | h) | h <;> exact g_s_ne h
theorem g_fw_ne {kd vl : Nat → Int32} {w : Int} {k : Nat} (h : g_fw kd vl w k = true) : (kd k).toInt ≠ 0 := by
  unfold g_fw at h
  simp only [Bool.or_eq_true, Bool.and_eq_true] at h
  rcases h with (((h | h) | h) | h) | h
  · exact g_o_ne h
  · exact g_o_ne h
  · exact g_o_ne h
  · exact g_o_ne h.1
  · rcases h.1 with h | h <;> exact g_o_ne h
theorem g_fw_iff {kd vl : Nat → Int32} {w : Int} {k : Nat} : g_fw kd vl w k = true ↔ (kd k).toInt = 1 ∧ ((vl k).toInt = 5 ∨ (vl k).toInt = 15 ∨ (vl k).toInt = 16 ∨ ((vl k).toInt = 17 ∧ w = 0) ∨ (((vl k).toInt = 18 ∨ (vl k).toInt = 19) ∧ w ≠ 0)) := by
  unfold g_fw g_o
  simp only [Bool.or_eq_true, Bool.and_eq_true, decide_eq_true_eq, Bool.not_eq_true', decide_eq_false_iff_not]
  omega
theorem x_lv_z1 {kd vl : Nat → Int32} {w : Int} {k : Nat} : (x_lv kd vl w 0).1 k = none := rfl
theorem x_lv_z2 {kd vl : Nat → Int32} {w : Int} {k : Nat} : (x_lv kd vl w 0).2.1 k = none := rfl
theorem x_lv_z3 {kd vl : Nat → Int32} {w : Int} {k : Nat} : (x_lv kd vl w 0).2.2 k = none := rfl
def g_ans (r : Int32) (E : Option Nat) (y : Nat) : Prop := (r.toInt = 1 → E = some y) ∧ (r.toInt ≠ 1 → E = none)
theorem g_ans.y {r : Int32} {E : Option Nat} {y : Nat} (hr : r.toInt = 1) (h : E = some y) : g_ans r E y := ⟨fun _ => h, fun q => absurd hr q⟩
theorem g_ans.n {r : Int32} {E : Option Nat} {y : Nat} (hr : r.toInt ≠ 1) (h : E = none) : g_ans r E y := ⟨fun q => absurd q hr, fun _ => h⟩
theorem g_ans.to {r : Int32} {E E' : Option Nat} {y : Nat} (h : g_ans r E y) (e : E' = E) : g_ans r E' y := by
  rw [e]
  exact h
def g_it (gd : Int32) (E : Option Nat) (op : Nat → Bool) (p : Nat → Option Nat) (f k : Nat) : Prop := (gd.toInt = 1 → E = x_loop op p f k) ∧ (gd.toInt ≠ 1 → E = none)
theorem g_it.start {r : Int32} {E0 : Option Nat} {op : Nat → Bool} {p : Nat → Option Nat} {f y : Nat} (h : g_ans r E0 y) : g_it r (E0.bind (x_loop op p f)) op p f y := ⟨fun q => by rw [h.1 q]; rfl, fun q => by rw [h.2 q]; rfl⟩
theorem g_it.step {gd r : Int32} {E : Option Nat} {op : Nat → Bool} {p : Nat → Option Nat} {f f' k y : Nat} (h : g_it gd E op p f k) (hg : gd.toInt = 1) (hf : f = f' + 1) (ho : op k = true) (a : g_ans r (p (k + 1)) y) : g_it r E op p f' y := by
  subst hf
  have e := h.1 hg
  unfold x_loop at e
  rw [if_pos ho] at e
  exact ⟨fun q => by rw [e, a.1 q]; rfl, fun q => by rw [e, a.2 q]; rfl⟩
theorem g_it.stop {gd : Int32} {E : Option Nat} {op : Nat → Bool} {p : Nat → Option Nat} {f k : Nat} (h : g_it gd E op p f k) (hx : gd.toInt = 1 → f = 0 ∨ op k = false) : g_ans gd E k := by
  refine ⟨fun q => ?_, h.2⟩
  rw [h.1 q]
  rcases hx q with z | z
  · subst z
    rfl
  · exact x_loop_out z
end
section
/-! STATEMENTS: what is told so far (columns, rows, MINERS' names, rows of the PLAN, ORDERS' names, which rules), and the next token -/
abbrev y_S : Type := (Int × Int) × List Int × Nat × List Int × (Bool × Bool × Bool)
def y_num (kd vl : Nat → Int32) (lo hi : Int) (k : Nat) : Option Nat := if g_n kd k && (decide (lo ≤ (vl k).toInt) && decide ((vl k).toInt ≤ hi)) then some (k + 1) else none
def y_own (kd vl : Nat → Int32) (c : Int) (k : Nat) : Option Nat := if g_o kd vl c k then some (k + 1) else none
def y_cell (kd vl : Nat → Int32) (q : Int × Int) (k : Nat) : Option Nat := (y_num kd vl 0 (q.1 - 1) k).bind (y_num kd vl 0 (q.2 - 1))
def y_isn (kd : Nat → Int32) (k : Nat) : Bool := decide ((kd k).toInt = 2)
def y_new (kd vl : Nat → Int32) (M O : List Int) (k : Nat) : Option Nat := if y_isn kd k && !(M.contains (vl k).toInt || O.contains (vl k).toInt) then some (k + 1) else none
def y_old (kd vl : Nat → Int32) (M : List Int) (k : Nat) : Option Nat := if y_isn kd k && M.contains (vl k).toInt then some (k + 1) else none
def y_rule (kd vl : Nat → Int32) (w : Int) (k : Nat) : Option Nat := if w = 1 then (x_lv kd vl w 8).2.1 k else (x_lv kd vl w 8).1 k
/-- the first STATEMENT; its columns and rows -/
def y_seam (kd vl : Nat → Int32) (k : Nat) : Option Nat := (y_own kd vl 0 k).bind fun k1 => (y_num kd vl 3 7 k1).bind fun k2 => (y_own kd vl 1 k2).bind (y_num kd vl 3 7)
/-- what a STATEMENT takes, and what it tells -/
def y_st (kd vl : Nat → Int32) (σ : y_S) (k : Nat) : Option (y_S × Nat) :=
  match σ with
  | (q, M, P, O, r0, r1, r2) =>
    if g_o kd vl 2 k then (y_num kd vl 0 (q.1 - 1) (k + 1)).map fun k' => (σ, k')
    else if g_o kd vl 3 k then (y_num kd vl 0 20 (k + 1)).map fun k' => (σ, k')
    else if g_o kd vl 4 k then (y_num kd vl 0 100 (k + 1)).map fun k' => (σ, k')
    else if g_o kd vl 5 k then ((y_cell kd vl q (k + 1)).bind (y_num kd vl 0 9)).map fun k' => (σ, k')
    else if g_o kd vl 6 k then (if M.length = 6 then none else (y_new kd vl M O (k + 1)).map fun k' => ((q, M ++ [(vl (k + 1)).toInt], P, O, r0, r1, r2), k'))
    else if g_o kd vl 7 k then (if P = 16 then none else ((y_old kd vl M (k + 1)).bind fun k1 => (y_own kd vl 8 k1).bind (y_cell kd vl q)).map fun k' => ((q, M, P + 1, O, r0, r1, r2), k'))
    else if g_o kd vl 9 k then (if O.length = 5 then none else ((y_new kd vl M O (k + 1)).bind fun k1 => (y_own kd vl 5 k1).bind fun k2 => (y_num kd vl 0 9 k2).bind fun k3 => (y_own kd vl 10 k3).bind fun k4 => (y_num kd vl 1 9 k4).bind fun k5 => (y_own kd vl 11 k5).bind (y_num kd vl 0 999)).map fun k' => ((q, M, P, O ++ [(vl (k + 1)).toInt], r0, r1, r2), k'))
    else if g_o kd vl 12 k then (if r0 then none else (y_rule kd vl 0 (k + 1)).map fun k' => ((q, M, P, O, true, r1, r2), k'))
    else if g_o kd vl 13 k then (if r1 then none else (y_rule kd vl 1 (k + 1)).map fun k' => ((q, M, P, O, r0, true, r2), k'))
    else if g_o kd vl 14 k then (if r2 then none else (y_rule kd vl 2 (k + 1)).map fun k' => ((q, M, P, O, r0, r1, true), k'))
    else none
/-- STATEMENT i -/
def y_one (kd vl : Nat → Int32) (i : Nat) (σ : y_S) (k : Nat) : Option (y_S × Nat) := if i = 0 then (y_seam kd vl k).map fun k' => ((((vl (k + 1)).toInt, (vl (k + 3)).toInt), σ.2), k') else y_st kd vl σ k
/-- STATEMENTS from the i-th on; f more may come -/
def y_go (kd vl : Nat → Int32) : Nat → Nat → y_S → Nat → Option (Nat × y_S)
  | 0, i, σ, k => if i ≠ 0 ∧ (kd k).toInt = 0 then some (i, σ) else none
  | f + 1, i, σ, k => if i ≠ 0 ∧ (kd k).toInt = 0 then some (i, σ) else (y_one kd vl i σ k).bind fun p => (g_tk kd vl 59 p.2).bind fun k' => y_go kd vl f (i + 1) p.1 k'
def y_0 : y_S := ((0, 0), [], 0, [], false, false, false)
/-- a MINE -/
def y_mine (kd vl : Nat → Int32) : Option (Nat × y_S) := y_go kd vl 80 0 y_0 0
/-! names as they lie in a row -/
def y_nm (f : Nat → Int32) (m : Nat) : List Int := (List.range m).map fun j => (f j).toInt
theorem y_nm_len {f : Nat → Int32} {m : Nat} : (y_nm f m).length = m := by
  unfold y_nm
  rw [List.length_map, List.length_range]
theorem y_nm_has {f : Nat → Int32} {m : Nat} {v : Int} : (y_nm f m).contains v = true ↔ ∃ j, j < m ∧ (f j).toInt = v := by
  unfold y_nm
  rw [List.contains_iff_mem, List.mem_map]
  constructor
  · rintro ⟨j, hj, e⟩
    exact ⟨j, List.mem_range.mp hj, e⟩
  · rintro ⟨j, hj, e⟩
    exact ⟨j, List.mem_range.mpr hj, e⟩
theorem y_nm_congr {f f' : Nat → Int32} {m : Nat} (h : ∀ j, j < m → f' j = f j) : y_nm f' m = y_nm f m := by
  unfold y_nm
  exact List.map_congr_left fun j hj => by rw [h j (List.mem_range.mp hj)]
theorem y_nm_add {f : Nat → Int32} {m : Nat} {v : Int32} : y_nm (upd f m v) (m + 1) = y_nm f m ++ [v.toInt] := by
  have e : y_nm (upd f m v) m = y_nm f m := y_nm_congr fun j hj => by
    unfold upd
    rw [if_neg (by omega)]
  have e2 : upd f m v m = v := by
    unfold upd
    rw [if_pos rfl]
  show (List.range (m + 1)).map (fun j => (upd f m v j).toInt) = _
  rw [List.range_succ, List.map_append]
  show y_nm (upd f m v) m ++ [(upd f m v m).toInt] = _
  rw [e, e2]
/-- no name like it up to k -/
theorem y_lt0 {P : Nat → Prop} : ∀ j : Nat, j < (0 : Int32).toNatClampNeg → P j := fun j h => by
  rw [show (0 : Int32).toNatClampNeg = 0 from by decide +kernel] at h
  omega
theorem y_stp {f : Nat → Int32} {k k' : Int32} {v : Int} (h : ∀ j : Nat, j < k.toNatClampNeg → (f j).toInt ≠ v) (hk : (f k.toNatClampNeg).toInt ≠ v) (e : k'.toInt = k.toInt + 1) (h0 : 0 ≤ k.toInt) : ∀ j : Nat, j < k'.toNatClampNeg → (f j).toInt ≠ v := by
  intro j hj
  have a : k'.toNatClampNeg = k.toNatClampNeg + 1 := by
    unfold Int32.toNatClampNeg
    omega
  by_cases z : j = k.toNatClampNeg
  · rw [z]
    exact hk
  · exact h j (by omega)
theorem y_hasnt {f : Nat → Int32} {k m : Int32} {v : Int} (h : ∀ j : Nat, j < k.toNatClampNeg → (f j).toInt ≠ v) (e : m.toInt ≤ k.toInt) : (y_nm f m.toNatClampNeg).contains v = false := by
  cases q : (y_nm f m.toNatClampNeg).contains v with
  | false => rfl
  | true =>
    obtain ⟨j, hj, ej⟩ := y_nm_has.mp q
    have a : m.toNatClampNeg ≤ k.toNatClampNeg := by
      unfold Int32.toNatClampNeg
      omega
    exact absurd ej (h j (by omega))
theorem y_has {f : Nat → Int32} {k m : Int32} {v : Int} (h : (f k.toNatClampNeg).toInt = v) (h0 : 0 ≤ k.toInt) (e : k.toInt < m.toInt) : (y_nm f m.toNatClampNeg).contains v = true := by
  refine y_nm_has.mpr ⟨k.toNatClampNeg, ?_, h⟩
  unfold Int32.toNatClampNeg
  omega
/-! what is taken by one method -/
theorem y_num_t {kd vl : Nat → Int32} {lo hi : Int} {k : Nat} (h : (kd k).toInt = 3) (h1 : lo ≤ (vl k).toInt) (h2 : (vl k).toInt ≤ hi) : y_num kd vl lo hi k = some (k + 1) := by
  unfold y_num
  rw [if_pos (by rw [g_n_iff.mpr h, decide_eq_true h1, decide_eq_true h2]; rfl)]
theorem y_num_f {kd vl : Nat → Int32} {lo hi : Int} {k : Nat} (h : (kd k).toInt ≠ 3 ∨ (vl k).toInt < lo ∨ hi < (vl k).toInt) : y_num kd vl lo hi k = none := by
  unfold y_num
  rw [if_neg]
  intro q
  simp only [Bool.and_eq_true, decide_eq_true_eq] at q
  have q1 := g_n_iff.mp q.1
  omega
theorem y_num_o {kd vl : Nat → Int32} {lo hi : Int} {k k' : Nat} (h : y_num kd vl lo hi k = some k') : (kd k).toInt = 3 ∧ lo ≤ (vl k).toInt ∧ (vl k).toInt ≤ hi ∧ k' = k + 1 := by
  unfold y_num at h
  split at h
  · rename_i q
    cases h
    simp only [Bool.and_eq_true, decide_eq_true_eq] at q
    exact ⟨g_n_iff.mp q.1, q.2.1, q.2.2, rfl⟩
  · cases h
theorem y_own_o {kd vl : Nat → Int32} {c : Int} {k k' : Nat} (h : y_own kd vl c k = some k') : g_o kd vl c k = true ∧ k' = k + 1 := by
  unfold y_own at h
  split at h
  · rename_i q
    cases h
    exact ⟨q, rfl⟩
  · cases h
theorem y_new_t {kd vl : Nat → Int32} {M O : List Int} {k : Nat} {v : Int} (h : (kd k).toInt = 2) (hv : (vl k).toInt = v) (h2 : (M.contains v || O.contains v) = false) : y_new kd vl M O k = some (k + 1) := by
  unfold y_new y_isn
  rw [hv, h2, decide_eq_true h]
  rfl
theorem y_new_f {kd vl : Nat → Int32} {M O : List Int} {k : Nat} (h : (kd k).toInt ≠ 2) : y_new kd vl M O k = none := by
  unfold y_new y_isn
  rw [decide_eq_false h]
  rfl
theorem y_new_f2 {kd vl : Nat → Int32} {M O : List Int} {k : Nat} {v : Int} (hv : (vl k).toInt = v) (h2 : (M.contains v || O.contains v) = true) : y_new kd vl M O k = none := by
  unfold y_new
  rw [hv, h2]
  cases y_isn kd k <;> rfl
theorem y_new_o {kd vl : Nat → Int32} {M O : List Int} {k k' : Nat} (h : y_new kd vl M O k = some k') : (kd k).toInt = 2 ∧ k' = k + 1 := by
  unfold y_new at h
  split at h
  · rename_i q
    cases h
    unfold y_isn at q
    simp only [Bool.and_eq_true, decide_eq_true_eq] at q
    exact ⟨q.1, rfl⟩
  · cases h
theorem y_old_t {kd vl : Nat → Int32} {M : List Int} {k : Nat} {v : Int} (h : (kd k).toInt = 2) (hv : (vl k).toInt = v) (h2 : M.contains v = true) : y_old kd vl M k = some (k + 1) := by
  unfold y_old y_isn
  rw [hv, h2, decide_eq_true h]
  rfl
theorem y_old_f {kd vl : Nat → Int32} {M : List Int} {k : Nat} (h : (kd k).toInt ≠ 2) : y_old kd vl M k = none := by
  unfold y_old y_isn
  rw [decide_eq_false h]
  rfl
theorem y_old_f2 {kd vl : Nat → Int32} {M : List Int} {k : Nat} {v : Int} (hv : (vl k).toInt = v) (h2 : M.contains v = false) : y_old kd vl M k = none := by
  unfold y_old
  rw [hv, h2]
  cases y_isn kd k <;> rfl
/-- as g_ans, of a number that is NONE where nothing is taken -/
def g_an2 (r : Int32) (E : Option Nat) (y : Nat) : Prop := (r.toInt ≠ -1 → E = some y) ∧ (r.toInt = -1 → E = none)
theorem g_an2.y {r : Int32} {E : Option Nat} {y : Nat} (hr : r.toInt ≠ -1) (h : E = some y) : g_an2 r E y := ⟨fun _ => h, fun q => absurd q hr⟩
theorem g_an2.n {r : Int32} {E : Option Nat} {y : Nat} (hr : r.toInt = -1) (h : E = none) : g_an2 r E y := ⟨fun q => absurd hr q, fun _ => h⟩
/-! a STATEMENT by its word -/
theorem g_o_at {kd vl : Nat → Int32} {c : Int} {k : Nat} (hk : (kd k).toInt = 1) : g_o kd vl c k = decide ((vl k).toInt = c) := by
  unfold g_o
  rw [decide_eq_true hk, Bool.true_and]
section YST
variable {kd vl : Nat → Int32} {k : Nat} {q : Int × Int} {M O : List Int} {P : Nat} {r0 r1 r2 : Bool}
theorem y_st_2 (hk : (kd k).toInt = 1) (hv : (vl k).toInt = 2) : y_st kd vl (q, M, P, O, r0, r1, r2) k = (y_num kd vl 0 (q.1 - 1) (k + 1)).map fun k' => ((q, M, P, O, r0, r1, r2), k') := by
  unfold y_st
  simp [g_o_at hk, hv]
theorem y_st_3 (hk : (kd k).toInt = 1) (hv : (vl k).toInt = 3) : y_st kd vl (q, M, P, O, r0, r1, r2) k = (y_num kd vl 0 20 (k + 1)).map fun k' => ((q, M, P, O, r0, r1, r2), k') := by
  unfold y_st
  simp [g_o_at hk, hv]
theorem y_st_4 (hk : (kd k).toInt = 1) (hv : (vl k).toInt = 4) : y_st kd vl (q, M, P, O, r0, r1, r2) k = (y_num kd vl 0 100 (k + 1)).map fun k' => ((q, M, P, O, r0, r1, r2), k') := by
  unfold y_st
  simp [g_o_at hk, hv]
theorem y_st_5 (hk : (kd k).toInt = 1) (hv : (vl k).toInt = 5) : y_st kd vl (q, M, P, O, r0, r1, r2) k = ((y_cell kd vl q (k + 1)).bind (y_num kd vl 0 9)).map fun k' => ((q, M, P, O, r0, r1, r2), k') := by
  unfold y_st
  simp [g_o_at hk, hv]
theorem y_st_6 (hk : (kd k).toInt = 1) (hv : (vl k).toInt = 6) : y_st kd vl (q, M, P, O, r0, r1, r2) k = if M.length = 6 then none else (y_new kd vl M O (k + 1)).map fun k' => ((q, M ++ [(vl (k + 1)).toInt], P, O, r0, r1, r2), k') := by
  unfold y_st
  simp [g_o_at hk, hv]
theorem y_st_7 (hk : (kd k).toInt = 1) (hv : (vl k).toInt = 7) : y_st kd vl (q, M, P, O, r0, r1, r2) k = if P = 16 then none else ((y_old kd vl M (k + 1)).bind fun k1 => (y_own kd vl 8 k1).bind (y_cell kd vl q)).map fun k' => ((q, M, P + 1, O, r0, r1, r2), k') := by
  unfold y_st
  simp [g_o_at hk, hv]
theorem y_st_9 (hk : (kd k).toInt = 1) (hv : (vl k).toInt = 9) : y_st kd vl (q, M, P, O, r0, r1, r2) k = if O.length = 5 then none else ((y_new kd vl M O (k + 1)).bind fun k1 => (y_own kd vl 5 k1).bind fun k2 => (y_num kd vl 0 9 k2).bind fun k3 => (y_own kd vl 10 k3).bind fun k4 => (y_num kd vl 1 9 k4).bind fun k5 => (y_own kd vl 11 k5).bind (y_num kd vl 0 999)).map fun k' => ((q, M, P, O ++ [(vl (k + 1)).toInt], r0, r1, r2), k') := by
  unfold y_st
  simp [g_o_at hk, hv]
theorem y_st_12 (hk : (kd k).toInt = 1) (hv : (vl k).toInt = 12) : y_st kd vl (q, M, P, O, r0, r1, r2) k = if r0 then none else (y_rule kd vl 0 (k + 1)).map fun k' => ((q, M, P, O, true, r1, r2), k') := by
  unfold y_st
  simp [g_o_at hk, hv]
theorem y_st_13 (hk : (kd k).toInt = 1) (hv : (vl k).toInt = 13) : y_st kd vl (q, M, P, O, r0, r1, r2) k = if r1 then none else (y_rule kd vl 1 (k + 1)).map fun k' => ((q, M, P, O, r0, true, r2), k') := by
  unfold y_st
  simp [g_o_at hk, hv]
theorem y_st_14 (hk : (kd k).toInt = 1) (hv : (vl k).toInt = 14) : y_st kd vl (q, M, P, O, r0, r1, r2) k = if r2 then none else (y_rule kd vl 2 (k + 1)).map fun k' => ((q, M, P, O, r0, r1, true), k') := by
  unfold y_st
  simp [g_o_at hk, hv]
theorem y_st_no (h : (kd k).toInt ≠ 1 ∨ ((vl k).toInt ≠ 2 ∧ (vl k).toInt ≠ 3 ∧ (vl k).toInt ≠ 4 ∧ (vl k).toInt ≠ 5 ∧ (vl k).toInt ≠ 6 ∧ (vl k).toInt ≠ 7 ∧ (vl k).toInt ≠ 9 ∧ (vl k).toInt ≠ 12 ∧ (vl k).toInt ≠ 13 ∧ (vl k).toInt ≠ 14)) : y_st kd vl (q, M, P, O, r0, r1, r2) k = none := by
  have e : ∀ c : Int, (c = 2 ∨ c = 3 ∨ c = 4 ∨ c = 5 ∨ c = 6 ∨ c = 7 ∨ c = 9 ∨ c = 12 ∨ c = 13 ∨ c = 14) → g_o kd vl c k = false := fun c hc => by
    cases z : g_o kd vl c k with
    | false => rfl
    | true =>
      have z1 := g_o_iff.mp z
      exact absurd h (by omega)
  unfold y_st
  simp [e]
end YST
end
section
/-! rows that a list doesn't hold, by the list alone -/
theorem kA19 {WA : List Nat} (h : WA.all (fun r => decide (¬ (4 ≤ r ∧ r ≤ 19 ∧ r ≠ 8 ∧ r ≠ 9 ∧ r ≠ 12))) = true) : ∀ r, 4 ≤ r → r ≤ 19 → r ≠ 8 → r ≠ 9 → r ≠ 12 → r ∉ WA := fun r h1 h2 h3 h4 h5 h6 => absurd ⟨h1, h2, h3, h4, h5⟩ (of_decide_eq_true (List.all_eq_true.mp h r h6))
theorem kA21 {WA : List Nat} (h : WA.all (fun r => decide (¬ (2 ≤ r ∧ r ≤ 21))) = true) : ∀ r, 2 ≤ r → r ≤ 21 → r ∉ WA := fun r h1 h2 h6 => absurd ⟨h1, h2⟩ (of_decide_eq_true (List.all_eq_true.mp h r h6))
/-- a loop's measure -/
theorem mu_lt {a b : Int} {n : Nat} (h : a.toNat < n + 1) (h0 : 0 ≤ b) (h1 : b + 1 ≤ a) : b.toNat < n := by omega
end
section
/-! the widening search, for both sides; far c = -1: not found yet -/
def b_nb (c d : Int) : Prop := d = c - 8 ∨ d = c - 1 ∨ d = c + 1 ∨ d = c + 8
theorem b_nb.sym {c d : Int} (h : b_nb c d) : b_nb d c := by
  unfold b_nb at h ⊢
  omega
/-- found in n steps at most; op: open; ps: a step leads out of it -/
def b_D (sh : Int) (op ps : Int → Prop) : Nat → Int → Prop
  | 0, c => c = sh
  | n + 1, c => b_D sh op ps n c ∨ (op c ∧ ∃ d, b_nb d c ∧ ps d ∧ b_D sh op ps n d)
def b_di (sh : Int) (op ps : Int → Prop) (c : Int) (n : Nat) : Prop := b_D sh op ps n c ∧ ∀ m, m < n → ¬ b_D sh op ps m c
def b_cnt (far : Int → Int) : Nat → Nat
  | 0 => 0
  | n + 1 => b_cnt far n + (if far (n : Int) = -1 then 0 else 1)
theorem b_cnt_le {far : Int → Int} : ∀ n : Nat, b_cnt far n ≤ n
  | 0 => Nat.le_refl _
  | n + 1 => by
    have h := b_cnt_le (far := far) n
    unfold b_cnt
    split <;> omega
theorem b_cnt_same {far far' : Int → Int} : ∀ n : Nat, (∀ c : Int, 0 ≤ c → c < n → far' c = far c) → b_cnt far' n = b_cnt far n
  | 0, _ => rfl
  | n + 1, h => by
    have h1 := b_cnt_same (far := far) (far' := far') n (fun c a b => h c a (by omega))
    unfold b_cnt
    rw [h1, h (n : Int) (by omega) (by omega)]
theorem b_cnt_hit {far far' : Int → Int} {d : Int} (h0 : 0 ≤ d) (hm : far d = -1) (hd : far' d ≠ -1) (hs : ∀ c, c ≠ d → far' c = far c) : ∀ n : Nat, d < n → b_cnt far' n = b_cnt far n + 1
  | 0, h => by omega
  | n + 1, h => by
    by_cases q : d = (n : Int)
    · have h1 := b_cnt_same (far := far) (far' := far') n (fun c a b => hs c (by omega))
      unfold b_cnt
      rw [h1, ← q, if_pos hm, if_neg hd]
    · have h1 := b_cnt_hit h0 hm hd hs n (by omega)
      unfold b_cnt
      rw [h1, hs (n : Int) (fun z => q z.symm)]
      omega
/-- where the search stands: q: the row of those found, k looked at, w found; of the k-th the neighbours in N -/
def b_I (sh : Int) (op ps : Int → Prop) (far : Int → Int) (q : Nat → Int) (k w : Nat) (N : Int → Prop) : Prop :=
  (0 < w ∧ k ≤ w ∧ q 0 = sh ∧ b_cnt far 64 = w) ∧
  (∀ c, far c ≠ -1 → ∃ i, i < w ∧ q i = c) ∧
  (∀ i, i < w → (0 ≤ q i ∧ q i < 64 ∧ op (q i)) ∧ ∃ n : Nat, far (q i) = n ∧ n ≤ i ∧ b_di sh op ps (q i) n) ∧
  (∀ i j, i ≤ j → j < w → far (q i) ≤ far (q j)) ∧
  (∀ j, j < w → k < w → far (q j) ≤ far (q k) + 1) ∧
  (∀ i, i < k → ps (q i) → ∀ d, b_nb (q i) d → op d → far d ≠ -1) ∧
  (k < w → ps (q k) → ∀ d, N d → b_nb (q k) d → op d → far d ≠ -1)
section BI
variable {sh : Int} {op ps : Int → Prop} {far far' : Int → Int} {q q' : Nat → Int} {k w : Nat} {N N' : Int → Prop} {c d : Int}
theorem b_I.w64 (h : b_I sh op ps far q k w N) : w ≤ 64 := by
  have h1 := b_cnt_le (far := far) 64
  have h2 := h.1.2.2.2
  omega
theorem b_I.sh0 (h : b_I sh op ps far q k w N) : far sh = 0 := by
  obtain ⟨⟨a, b, e, f⟩, h2, h3, -⟩ := h
  obtain ⟨-, n, h4, h5, -⟩ := h3 0 a
  rw [e] at h4
  omega
theorem b_I.below (h : b_I sh op ps far q k w N) (hk : k < w) : ∀ (n : Nat) (c : Int), (n : Int) < far (q k) → b_D sh op ps n c → ∃ i, i < k ∧ q i = c := by
  have h0 := h.sh0
  obtain ⟨⟨a, b, e, -⟩, h2, h3, h4, h5, h6, h7⟩ := h
  intro n
  induction n with
  | zero =>
    intro c hn hD
    have hD : c = sh := hD
    refine ⟨0, ?_, by rw [e, hD]⟩
    cases k with
    | zero =>
      rw [e, h0] at hn
      exact absurd hn (by decide)
    | succ k => omega
  | succ n ih =>
    intro c hn hD
    rcases hD with hD | ⟨ho, d, hb, hp, hD⟩
    · exact ih c (by omega) hD
    · obtain ⟨i, hi, ei⟩ := ih d (by omega) hD
      rw [← ei] at hb hp
      obtain ⟨j, hj, ej⟩ := h2 c (h6 i hi hp c hb ho)
      by_cases z : j < k
      · exact ⟨j, z, ej⟩
      · exfalso
        obtain ⟨-, m, em, -, hm⟩ := h3 j hj
        have z1 := h4 k j (by omega) hj
        have z2 : m ≤ n + 1 := by
          apply Classical.byContradiction
          intro z3
          refine hm.2 (n + 1) (by omega) ?_
          rw [ej]
          exact Or.inr ⟨ho, d, by rw [← ei]; exact hb, by rw [← ei]; exact hp, hD⟩
        omega
theorem b_I.init (hq : q 0 = sh) (h0 : far sh = 0) (hn : ∀ c, c ≠ sh → far c = -1) (hs : 0 ≤ sh ∧ sh < 64) (ho : op sh) : b_I sh op ps far q 0 1 (fun _ => False) := by
  have hone : ∀ i, i < 1 → i = 0 := fun i hi => by omega
  refine ⟨⟨by decide, by decide, hq, ?_⟩, fun c hc => ⟨0, by decide, ?_⟩, fun i hi => ?_, fun i j hij hj => ?_, fun j hj _ => ?_, fun i hi => absurd hi (Nat.not_lt_zero i), fun _ _ d hd => absurd hd id⟩
  · have h1 : ∀ n : Nat, b_cnt (fun _ => -1) n = 0 := fun n => by
      induction n with
      | zero => rfl
      | succ n ih => unfold b_cnt; rw [ih, if_pos rfl]
    have h2 := b_cnt_hit (far := fun _ => -1) (far' := far) hs.1 rfl (by rw [h0]; decide) (fun c hc => hn c hc) 64 hs.2
    rw [h2, h1]
  · apply Classical.byContradiction
    intro z
    exact hc (hn c (fun z2 => z (by rw [hq, z2])))
  · have := hone i hi
    subst this
    rw [hq]
    exact ⟨⟨hs.1, hs.2, ho⟩, 0, h0, Nat.le_refl _, rfl, fun m hm => absurd hm (Nat.not_lt_zero m)⟩
  · rw [hone j hj, hone i (by omega)]
    exact Int.le_refl _
  · rw [hone j hj]
    omega
theorem b_I.push (h : b_I sh op ps far q k w N) (hk : k < w) (hp : ps (q k)) (hb : b_nb (q k) d) (ho : op d) (hd : far d = -1) (hr : 0 ≤ d ∧ d < 64) (f1 : far' d = far (q k) + 1) (f2 : ∀ c, c ≠ d → far' c = far c) (q1 : q' w = d) (q2 : ∀ i, i < w → q' i = q i) (hN : ∀ c, N' c → N c ∨ c = d) : b_I sh op ps far' q' k (w + 1) N' := by
  have h0 := h.sh0
  have hbel := h.below hk
  obtain ⟨⟨a, b, e, g⟩, h2, h3, h4, h5, h6, h7⟩ := h
  obtain ⟨⟨r0, r1, rk⟩, n, en, ni, hn⟩ := h3 k hk
  have qd : ∀ i, i < w → q i ≠ d := fun i hi z => by
    obtain ⟨-, m, em, -⟩ := h3 i hi
    rw [z, hd] at em
    omega
  have fq : ∀ i, i < w → far' (q' i) = far (q i) := fun i hi => by rw [q2 i hi, f2 _ (qd i hi)]
  have fd : far' d ≠ -1 := by omega
  have fm : ∀ c, far c ≠ -1 → far' c ≠ -1 := fun c hc => by
    by_cases z : c = d
    · rw [z]; exact fd
    · rw [f2 c z]; exact hc
  refine ⟨⟨by omega, by omega, by rw [q2 0 a]; exact e, ?_⟩, fun c hc => ?_, fun i hi => ?_, fun i j hij hj => ?_, fun j hj _ => ?_, fun i hi hpi x hx hox => ?_, fun _ _ x hx hbx hox => ?_⟩
  · rw [b_cnt_hit hr.1 hd fd f2 64 hr.2, g]
  · by_cases z : c = d
    · exact ⟨w, by omega, by rw [q1, z]⟩
    · rw [f2 c z] at hc
      obtain ⟨i, hi, ei⟩ := h2 c hc
      exact ⟨i, by omega, by rw [q2 i hi]; exact ei⟩
  · by_cases z : i < w
    · rw [fq i z, q2 i z]
      exact h3 i z
    · have z1 : i = w := by omega
      subst z1
      rw [q1, f1]
      refine ⟨⟨hr.1, hr.2, ho⟩, n + 1, by omega, by omega, Or.inr ⟨ho, q k, hb, hp, hn.1⟩, ?_⟩
      intro m
      induction m with
      | zero =>
        intro _ z
        have z : d = sh := z
        rw [z, h0] at hd
        exact absurd hd (by decide)
      | succ m ih =>
        intro hm z
        rcases z with z | ⟨-, x, hbx, hpx, hx⟩
        · exact ih (by omega) z
        · obtain ⟨i, hi, ei⟩ := hbel m x (by omega) hx
          rw [← ei] at hbx hpx
          exact h6 i hi hpx d hbx ho hd
  · by_cases z : j < w
    · rw [fq j z, fq i (by omega)]
      exact h4 i j hij z
    · have z1 : j = w := by omega
      subst z1
      rw [q1, f1]
      by_cases y : i < j
      · rw [fq i y]
        exact h5 i y hk
      · have y1 : i = j := by omega
        subst y1
        rw [q1, f1]
        exact Int.le_refl _
  · rw [fq k hk]
    by_cases z : j < w
    · rw [fq j z]
      exact h5 j z hk
    · have z1 : j = w := by omega
      subst z1
      rw [q1, f1]
      exact Int.le_refl _
  · rw [q2 i (by omega)] at hpi hx
    exact fm x (h6 i hi hpi x hx hox)
  · rw [q2 k hk] at hbx
    by_cases z : x = d
    · rw [z]; exact fd
    · rcases hN x hx with z1 | z1
      · exact fm x (h7 hk hp x z1 hbx hox)
      · exact absurd z1 z
theorem b_I.more (h : b_I sh op ps far q k w N) (hN : ∀ c, N' c → N c ∨ (op c → b_nb (q k) c → far c ≠ -1)) : b_I sh op ps far q k w N' := by
  obtain ⟨h1, h2, h3, h4, h5, h6, h7⟩ := h
  refine ⟨h1, h2, h3, h4, h5, h6, fun a b d hd hb ho => ?_⟩
  rcases hN d hd with z | z
  · exact h7 a b d z hb ho
  · exact z ho hb
theorem b_I.next (h : b_I sh op ps far q k w N) (hk : k < w) (hN : ps (q k) → ∀ d, b_nb (q k) d → N d) : b_I sh op ps far q (k + 1) w (fun _ => False) := by
  obtain ⟨⟨a, b, e, g⟩, h2, h3, h4, h5, h6, h7⟩ := h
  refine ⟨⟨a, by omega, e, g⟩, h2, h3, h4, fun j hj h1 => ?_, fun i hi hp d hd ho => ?_, fun _ _ d hd => absurd hd id⟩
  · have z1 := h5 j hj hk
    have z2 := h4 k (k + 1) (by omega) h1
    omega
  · by_cases z : i < k
    · exact h6 i z hp d hd ho
    · have z1 : i = k := by omega
      subst z1
      exact h7 hk hp d (hN hp d hd) hd ho
theorem b_I.done (h : b_I sh op ps far q k w N) (hk : w ≤ k) : ∀ (n : Nat) (c : Int), b_D sh op ps n c → far c ≠ -1 := by
  have h0 := h.sh0
  obtain ⟨⟨a, b, e, g⟩, h2, h3, h4, h5, h6, h7⟩ := h
  intro n
  induction n with
  | zero =>
    intro c hc
    have hc : c = sh := hc
    rw [hc, h0]
    decide
  | succ n ih =>
    intro c hc
    rcases hc with hc | ⟨ho, d, hb, hp, hD⟩
    · exact ih c hc
    · obtain ⟨i, hi, ei⟩ := h2 d (ih d hD)
      rw [← ei] at hb hp
      exact h6 i (by omega) hp c hb ho
end BI
/-- how far: the number of steps, -1 where no way leads -/
def b_far (sh : Int) (op ps : Int → Prop) (far : Int → Int) : Prop := ∀ c, (far c = -1 ∧ ∀ n, ¬ b_D sh op ps n c) ∨ ∃ n : Nat, far c = n ∧ n < 64 ∧ b_di sh op ps c n
theorem b_I.far {sh : Int} {op ps : Int → Prop} {far : Int → Int} {q : Nat → Int} {k w : Nat} {N : Int → Prop} (h : b_I sh op ps far q k w N) (hk : w ≤ k) : b_far sh op ps far := by
  intro c
  by_cases z : far c = -1
  · exact Or.inl ⟨z, fun n hn => h.done hk n c hn z⟩
  · obtain ⟨i, hi, ei⟩ := h.2.1 c z
    obtain ⟨-, n, en, hn, hd⟩ := h.2.2.1 i hi
    have := h.w64
    rw [ei] at en hd
    exact Or.inr ⟨n, en, by omega, hd⟩
theorem b_far.uniq {sh : Int} {op ps : Int → Prop} {f g : Int → Int} (hf : b_far sh op ps f) (hg : b_far sh op ps g) (c : Int) : f c = g c := by
  rcases hf c with ⟨e1, h1⟩ | ⟨n, e1, -, h1⟩
  · rcases hg c with ⟨e2, h2⟩ | ⟨m, e2, -, h2⟩
    · rw [e1, e2]
    · exact absurd h2.1 (h1 m)
  · rcases hg c with ⟨e2, h2⟩ | ⟨m, e2, -, h2⟩
    · exact absurd h1.1 (h2 n)
    · have a : ¬ n < m := fun z => h2.2 n z h1.1
      have b : ¬ m < n := fun z => h1.2 m z h2.1
      omega
theorem b_D.congr {sh : Int} {op ps op' ps' : Int → Prop} (ho : ∀ c, op c ↔ op' c) (hp : ∀ c, ps c ↔ ps' c) : ∀ (n : Nat) (c : Int), b_D sh op ps n c ↔ b_D sh op' ps' n c
  | 0, _ => Iff.rfl
  | n + 1, c => by
    have ih := b_D.congr (sh := sh) ho hp n
    show (b_D sh op ps n c ∨ (op c ∧ ∃ d, b_nb d c ∧ ps d ∧ b_D sh op ps n d)) ↔ (b_D sh op' ps' n c ∨ (op' c ∧ ∃ d, b_nb d c ∧ ps' d ∧ b_D sh op' ps' n d))
    constructor
    · rintro (h | ⟨a, d, b, e, f⟩)
      · exact Or.inl ((ih c).mp h)
      · exact Or.inr ⟨(ho c).mp a, d, b, (hp d).mp e, (ih d).mp f⟩
    · rintro (h | ⟨a, d, b, e, f⟩)
      · exact Or.inl ((ih c).mpr h)
      · exact Or.inr ⟨(ho c).mpr a, d, b, (hp d).mpr e, (ih d).mpr f⟩
end
section
/-! a mine by numbers: rows of ints. A ground G: row 0: columns, rows, the shaft's cell, reach, quake, miners, rows of the plan, orders; row 1: grades;
    2, 3, 4: the orders' grades, tubs, pays; 5, 6: the plan's miners, cells. A pit A: row 0: shift, purse; row 1: cells (-1 open, -2 open with a curtain);
    2: hurt; 3, 4: the plan's miners, cells; 5: sold; 6: tubs -/
abbrev aR : Type := Nat → Nat → Int
def s_up (A : aR) (r i : Nat) (v : Int) : aR := fun a b => if a = r ∧ b = i then v else A a b
theorem s_up_at {A : aR} {r i : Nat} {v : Int} : s_up A r i v r i = v := by
  unfold s_up
  rw [if_pos ⟨rfl, rfl⟩]
theorem s_up_ne {A : aR} {r i a b : Nat} {v : Int} (h : ¬ (a = r ∧ b = i)) : s_up A r i v a b = A a b := by
  unfold s_up
  rw [if_neg h]
def s_in (G : aR) (c : Int) : Prop := (0 ≤ c ∧ c < 64) ∧ c % 8 < G 0 0 ∧ c / 8 < G 0 1
def s_c (A : aR) (c : Int) : Int := A 1 c.toNat
def s_op (G A : aR) (c : Int) : Prop := s_in G c ∧ s_c A c < 0
def s_ps (G A : aR) (c : Int) : Prop := s_in G c ∧ s_c A c = -1
def s_so (G A : aR) (c : Int) : Prop := s_in G c ∧ 0 ≤ s_c A c
noncomputable def s_b (p : Prop) : Int := @ite Int p (Classical.propDecidable p) 1 0
theorem s_b1 {p : Prop} (h : p) : s_b p = 1 := by
  unfold s_b
  exact if_pos h
theorem s_b0 {p : Prop} (h : ¬ p) : s_b p = 0 := by
  unfold s_b
  exact if_neg h
theorem s_b01 (p : Prop) : s_b p = 0 ∨ s_b p = 1 := by
  by_cases h : p
  · exact Or.inr (s_b1 h)
  · exact Or.inl (s_b0 h)
noncomputable def s_ob (G A : aR) (c : Int) : Int := s_b (s_op G A (c - 8)) + s_b (s_op G A (c - 1)) + s_b (s_op G A (c + 1)) + s_b (s_op G A (c + 8))
noncomputable def s_fd (G A : aR) : Int → Int := Classical.epsilon (b_far (G 0 2) (s_op G A) (s_ps G A))
theorem s_fd_eq {G A : aR} {f : Int → Int} (h : b_far (G 0 2) (s_op G A) (s_ps G A) f) (c : Int) : f c = s_fd G A c := h.uniq (Classical.epsilon_spec (p := b_far (G 0 2) (s_op G A) (s_ps G A)) ⟨f, h⟩) c
def s_lit (G A : aR) (r c : Int) : Prop := s_ps G A c ∧ s_fd G A c ≠ -1 ∧ s_fd G A c ≤ r
noncomputable def s_l1 (G A : aR) (r d : Int) : Int := @ite Int (s_lit G A r d) (Classical.propDecidable _) (s_fd G A d) (-1)
theorem s_l1_y {G A : aR} {r d : Int} (h : s_lit G A r d) : s_l1 G A r d = s_fd G A d := by
  unfold s_l1
  exact if_pos h
theorem s_l1_n {G A : aR} {r d : Int} (h : ¬ s_lit G A r d) : s_l1 G A r d = -1 := by
  unfold s_l1
  exact if_neg h
def s_mn (a b : Int) : Int := if a = -1 then b else if b = -1 then a else if a ≤ b then a else b
/-- how far the nearest lit cell next to one is; -1: there is none -/
noncomputable def s_nl (G A : aR) (r c : Int) : Int := s_mn (s_mn (s_l1 G A r (c - 8)) (s_l1 G A r (c - 1))) (s_mn (s_l1 G A r (c + 1)) (s_l1 G A r (c + 8)))
/-! what a rule's steps tell: a row of values, how many -/
abbrev e_S : Type := (Nat → Int) × Nat
def e_cl (v : Int) : Int := if 1000000 < v then 1000000 else if v < -1000000 then -1000000 else v
def e_and (a b : Int) : Int := (Int32.ofInt a &&& Int32.ofInt b).toInt
def e_or (a b : Int) : Int := (Int32.ofInt a ||| Int32.ofInt b).toInt
/-- the greatest whole number not above, and what is left -/
def e_fd (a b : Int) : Int := if (a < 0 ↔ ¬ b < 0) ∧ a.tdiv b * b ≠ a then a.tdiv b - 1 else a.tdiv b
def e_fm (a b : Int) : Int := a - b * e_fd a b
def e_op (s a b : Int) : Int :=
  if s = -10 then e_cl (a + b) else if s = -11 then e_cl (a - b) else if s = -12 then e_cl (a * b)
  else if s = -13 then (if b = 0 then 0 else e_cl (e_fd a b)) else if s = -14 then (if b = 0 then 0 else e_fm a b)
  else if s = -15 then (if a < b then a else b) else if s = -16 then (if b < a then a else b)
  else if s = -17 then (if a < b then 1 else 0) else if s = -18 then (if b < a then 1 else 0) else if s = -19 then (if a = b then 1 else 0)
  else if s = -20 then e_and a b else e_or a b
def e_w (f : Nat → Int) (i : Nat) (v : Int) : Nat → Int := fun j => if j = i then v else f j
def e_st (env : Int → Int) (s : Int) (q : e_S) : e_S :=
  if 0 ≤ s then (e_w q.1 q.2 s, q.2 + 1)
  else if -7 ≤ s then (e_w q.1 q.2 (env s), q.2 + 1)
  else if s = -8 then (e_w q.1 (q.2 - 1) (1 - q.1 (q.2 - 1)), q.2)
  else if s = -9 then (e_w q.1 (q.2 - 3) (if q.1 (q.2 - 3) = 1 then q.1 (q.2 - 2) else q.1 (q.2 - 1)), q.2 - 2)
  else (e_w q.1 (q.2 - 2) (e_op s (q.1 (q.2 - 2)) (q.1 (q.2 - 1))), q.2 - 1)
def e_run (env : Int → Int) : List Int → e_S → e_S
  | [], q => q
  | s :: r, q => e_run env r (e_st env s q)
def s_ev (env : Int → Int) (C : List Int) : Int := (e_run env C (fun _ => 0, 0)).1 0
/-- what waits: true a TEST, false a SUM; the last one first -/
def e_t1 (s : Int) (t : List Bool) : Option (List Bool) :=
  if 0 ≤ s then (if s ≤ 9999 ∧ t.length < 60 then some (false :: t) else none)
  else if -6 ≤ s then (if t.length < 60 then some (false :: t) else none)
  else if s = -7 then (if t.length < 60 then some (true :: t) else none)
  else if s = -8 then (match t with | true :: r => some (true :: r) | _ => none)
  else if s = -9 then (match t with | false :: false :: true :: r => some (false :: r) | _ => none)
  else if -16 ≤ s then (match t with | false :: false :: r => some (false :: r) | _ => none)
  else if -19 ≤ s then (match t with | false :: false :: r => some (true :: r) | _ => none)
  else if -21 ≤ s then (match t with | true :: true :: r => some (true :: r) | _ => none)
  else none
def e_ty : List Int → List Bool → Option (List Bool)
  | [], t => some t
  | s :: r, t => (e_t1 s t).bind (e_ty r)
theorem e_ty_app : ∀ (a b : List Int) (t : List Bool), e_ty (a ++ b) t = (e_ty a t).bind (e_ty b)
  | [], b, t => rfl
  | s :: a, b, t => by
    show (e_t1 s t).bind (e_ty (a ++ b)) = ((e_t1 s t).bind (e_ty a)).bind (e_ty b)
    cases e_t1 s t with
    | none => rfl
    | some t' => exact e_ty_app a b t'
theorem e_run_app {env : Int → Int} : ∀ (a b : List Int) (q : e_S), e_run env (a ++ b) q = e_run env b (e_run env a q)
  | [], b, q => rfl
  | s :: a, b, q => e_run_app a b (e_st env s q)
/-- values by sort -/
def e_v1 (b : Bool) (v : Int) : Prop := if b = true then (v = 0 ∨ v = 1) else (-1000000 ≤ v ∧ v ≤ 1000000)
def e_vt (f : Nat → Int) : List Bool → Prop
  | [] => True
  | b :: r => e_v1 b (f r.length) ∧ e_vt f r
theorem e_vt.congr {f g : Nat → Int} : ∀ {t : List Bool}, e_vt f t → (∀ i, i < t.length → g i = f i) → e_vt g t
  | [], _, _ => trivial
  | b :: r, h, e => ⟨by rw [e r.length (by simp)]; exact h.1, e_vt.congr h.2 (fun i hi => e i (by simp; omega))⟩
theorem e_v1.sum {v : Int} (h : e_v1 false v) : -1000000 ≤ v ∧ v ≤ 1000000 := h
theorem e_v1.tst {v : Int} (h : e_v1 true v) : v = 0 ∨ v = 1 := h
theorem e_v1.any {b : Bool} {v : Int} (h : e_v1 b v) : -1000000 ≤ v ∧ v ≤ 1000000 := by
  cases b with
  | true =>
    have := h.tst
    omega
  | false => exact h
theorem e_cl_b (v : Int) : -1000000 ≤ e_cl v ∧ e_cl v ≤ 1000000 := by
  unfold e_cl
  split
  · omega
  · split <;> omega
theorem e_w_at {f : Nat → Int} {i : Nat} {v : Int} : e_w f i v i = v := by
  unfold e_w
  rw [if_pos rfl]
theorem e_w_ne {f : Nat → Int} {i j : Nat} {v : Int} (h : j ≠ i) : e_w f i v j = f j := by
  unfold e_w
  rw [if_neg h]
theorem e_bit (a b : Int) (ha : a = 0 ∨ a = 1) (hb : b = 0 ∨ b = 1) : (e_and a b = 0 ∨ e_and a b = 1) ∧ (e_or a b = 0 ∨ e_or a b = 1) := by
  rcases ha with rfl | rfl <;> rcases hb with rfl | rfl <;> (unfold e_and e_or; decide +kernel)
theorem e_tm (a b : Int) (h0 : b ≠ 0) : b * a.tdiv b + a.tmod b = a ∧ (0 ≤ a → 0 ≤ a.tmod b) ∧ (a < 0 → a.tmod b ≤ 0) ∧ (0 < b → -b < a.tmod b ∧ a.tmod b < b) ∧ (b < 0 → b < a.tmod b ∧ a.tmod b < -b) := by
  refine ⟨Int.mul_tdiv_add_tmod a b, fun h => Int.tmod_nonneg b h, fun h => ?_, fun h => ⟨Int.lt_tmod_of_pos a h, Int.tmod_lt_of_pos a h⟩, fun h => ?_⟩
  · have h1 := Int.tmod_nonneg (a := -a) b (by omega)
    rw [Int.neg_tmod] at h1
    omega
  · have h1 := Int.lt_tmod_of_pos a (show 0 < -b by omega)
    have h2 := Int.tmod_lt_of_pos a (show 0 < -b by omega)
    rw [Int.tmod_neg] at h1 h2
    omega
theorem e_fm_b {a b : Int} (hb : -1000000 ≤ b ∧ b ≤ 1000000) (h0 : b ≠ 0) : -1000000 ≤ e_fm a b ∧ e_fm a b ≤ 1000000 := by
  obtain ⟨h1, h2, h3, h4, h5⟩ := e_tm a b h0
  unfold e_fm e_fd
  generalize a.tmod b = m at h1 h2 h3 h4 h5
  generalize a.tdiv b = t at h1 ⊢
  rw [Int.mul_comm t b]
  split
  · rename_i q
    rw [Int.mul_sub, Int.mul_one]
    generalize b * t = u at h1 q ⊢
    omega
  · generalize b * t = u at h1 ⊢
    omega
theorem e_m1 {t t' : List Bool} (h : (match t with | true :: r => some (true :: r) | _ => none) = some t') : ∃ r, t = true :: r ∧ t' = true :: r := by
  cases t with
  | nil => cases h
  | cons b r =>
    cases b with
    | false => cases h
    | true => cases h; exact ⟨r, rfl, rfl⟩
theorem e_m3 {t t' : List Bool} (h : (match t with | false :: false :: true :: r => some (false :: r) | _ => none) = some t') : ∃ r, t = false :: false :: true :: r ∧ t' = false :: r := by
  cases t with
  | nil => cases h
  | cons b r =>
    cases b with
    | true => cases h
    | false =>
      cases r with
      | nil => cases h
      | cons b r =>
        cases b with
        | true => cases h
        | false =>
          cases r with
          | nil => cases h
          | cons b r =>
            cases b with
            | false => cases h
            | true => cases h; exact ⟨r, rfl, rfl⟩
theorem e_m2 {t t' : List Bool} {x : Bool} (h : (match t with | false :: false :: r => some (x :: r) | _ => none) = some t') : ∃ r, t = false :: false :: r ∧ t' = x :: r := by
  cases t with
  | nil => cases h
  | cons b r =>
    cases b with
    | true => cases h
    | false =>
      cases r with
      | nil => cases h
      | cons b r =>
        cases b with
        | true => cases h
        | false => cases h; exact ⟨r, rfl, rfl⟩
theorem e_m4 {t t' : List Bool} (h : (match t with | true :: true :: r => some (true :: r) | _ => none) = some t') : ∃ r, t = true :: true :: r ∧ t' = true :: r := by
  cases t with
  | nil => cases h
  | cons b r =>
    cases b with
    | false => cases h
    | true =>
      cases r with
      | nil => cases h
      | cons b r =>
        cases b with
        | false => cases h
        | true => cases h; exact ⟨r, rfl, rfl⟩
def e_R (v : Int) : Prop := -1000000 ≤ v ∧ v ≤ 1000000
theorem e_Ri {P : Prop} [Decidable P] {a b : Int} (h1 : P → e_R a) (h2 : ¬ P → e_R b) : e_R (if P then a else b) := by
  by_cases h : P
  · rw [if_pos h]
    exact h1 h
  · rw [if_neg h]
    exact h2 h
/-- a step keeps sorts -/
theorem e_step {env : Int → Int} {s : Int} (he : -6 ≤ s → s < 0 → -1000000 ≤ env s ∧ env s ≤ 1000000) (h7 : env (-7) = 1) {t t' : List Bool} {q : e_S} (ht : e_t1 s t = some t') (hv : e_vt q.1 t) (hn : q.2 = t.length) : e_vt (e_st env s q).1 t' ∧ (e_st env s q).2 = t'.length ∧ t'.length ≤ 60 ∨ 60 < t.length := by
  obtain ⟨f, n⟩ := q
  have hn : n = t.length := hn
  have hv : e_vt f t := hv
  subst hn
  unfold e_t1 at ht
  unfold e_st
  by_cases c0 : 0 ≤ s
  · rw [if_pos c0] at ht ⊢
    split at ht
    · rename_i c
      cases ht
      refine Or.inl ⟨⟨?_, ?_⟩, rfl, by simp; omega⟩
      · show e_v1 false (e_w f t.length s t.length)
        rw [e_w_at]
        show -1000000 ≤ s ∧ s ≤ 1000000
        omega
      · exact hv.congr (fun i hi => e_w_ne (by omega))
    · cases ht
  rw [if_neg c0] at ht ⊢
  by_cases c1 : -7 ≤ s
  · rw [if_pos c1]
    by_cases c2 : -6 ≤ s
    · rw [if_pos c2] at ht
      split at ht
      · cases ht
        refine Or.inl ⟨⟨?_, ?_⟩, rfl, by simp; omega⟩
        · show e_v1 false (e_w f t.length (env s) t.length)
          rw [e_w_at]
          exact he c2 (by omega)
        · exact hv.congr (fun i hi => e_w_ne (by omega))
      · cases ht
    · have e7 : s = -7 := by omega
      subst e7
      rw [if_neg c2, if_pos rfl] at ht
      split at ht
      · cases ht
        refine Or.inl ⟨⟨?_, ?_⟩, rfl, by simp; omega⟩
        · show e_v1 true (e_w f t.length (env (-7)) t.length)
          rw [e_w_at, h7]
          exact Or.inr rfl
        · exact hv.congr (fun i hi => e_w_ne (by omega))
      · cases ht
  rw [if_neg c1]
  rw [if_neg (by omega), if_neg (by omega)] at ht
  by_cases c8 : s = -8
  · rw [if_pos c8] at ht ⊢
    · obtain ⟨r, et, et'⟩ := e_m1 ht
      subst et
      subst et'
      by_cases hl : 60 < (true :: r).length
      · exact Or.inr hl
      refine Or.inl ⟨⟨?_, ?_⟩, rfl, by omega⟩
      · show e_v1 true (e_w f (r.length + 1 - 1) (1 - f (r.length + 1 - 1)) r.length)
        rw [show r.length + 1 - 1 = r.length by omega, e_w_at]
        have := (show e_v1 true (f r.length) from hv.1).tst
        show 1 - f r.length = 0 ∨ 1 - f r.length = 1
        omega
      · exact hv.2.congr (fun i hi => e_w_ne (by simp; omega))
  rw [if_neg c8] at ht ⊢
  by_cases c9 : s = -9
  · rw [if_pos c9] at ht ⊢
    · obtain ⟨r, et, et'⟩ := e_m3 ht
      subst et
      subst et'
      by_cases hl : 60 < (false :: false :: true :: r).length
      · exact Or.inr hl
      simp only [List.length_cons] at hl
      refine Or.inl ⟨⟨?_, ?_⟩, by simp, by simp; omega⟩
      · show e_v1 false (e_w f (r.length + 1 + 1 + 1 - 3) _ r.length)
        rw [show r.length + 1 + 1 + 1 - 3 = r.length by omega, e_w_at]
        have a1 := (show e_v1 false (f (r.length + 1 + 1)) from hv.1).sum
        have a2 := (show e_v1 false (f (r.length + 1)) from hv.2.1).sum
        show -1000000 ≤ (if f (r.length + 1 + 1 + 1 - 3) = 1 then f (r.length + 1 + 1 + 1 - 2) else f (r.length + 1 + 1 + 1 - 1)) ∧ (if f (r.length + 1 + 1 + 1 - 3) = 1 then f (r.length + 1 + 1 + 1 - 2) else f (r.length + 1 + 1 + 1 - 1)) ≤ 1000000
        rw [show r.length + 1 + 1 + 1 - 2 = r.length + 1 by omega, show r.length + 1 + 1 + 1 - 1 = r.length + 1 + 1 by omega]
        split <;> omega
      · exact hv.2.2.2.congr (fun i hi => e_w_ne (by simp; omega))
  rw [if_neg c9] at ht ⊢
  have two : ∀ (b1 b2 b3 : Bool) (r : List Bool), t = b1 :: b2 :: r → t' = b3 :: r → (e_v1 b1 (f (r.length + 1)) → e_v1 b2 (f r.length) → e_v1 b3 (e_op s (f r.length) (f (r.length + 1)))) → e_vt (e_w f (t.length - 2) (e_op s (f (t.length - 2)) (f (t.length - 1)))) t' ∧ t.length - 1 = t'.length ∧ t'.length ≤ 60 ∨ 60 < t.length := by
    intro b1 b2 b3 r e1 e2 h
    subst e1
    subst e2
    by_cases hl : 60 < (b1 :: b2 :: r).length
    · exact Or.inr hl
    simp only [List.length_cons] at hl
    refine Or.inl ⟨⟨?_, ?_⟩, by simp, by simp; omega⟩
    · show e_v1 b3 (e_w f (r.length + 1 + 1 - 2) (e_op s (f (r.length + 1 + 1 - 2)) (f (r.length + 1 + 1 - 1))) r.length)
      rw [show r.length + 1 + 1 - 2 = r.length by omega, show r.length + 1 + 1 - 1 = r.length + 1 by omega, e_w_at]
      exact h hv.1 hv.2.1
    · exact hv.2.2.congr (fun i hi => e_w_ne (by simp; omega))
  by_cases c16 : -16 ≤ s
  · rw [if_pos c16] at ht
    · obtain ⟨r, et, et'⟩ := e_m2 ht
      refine two false false false r et et' (fun hb ha => ?_)
      have a1 := ha.sum
      have a2 := hb.sum
      show e_R (e_op s _ _)
      unfold e_op
      exact e_Ri (fun _ => e_cl_b _) fun _ => e_Ri (fun _ => e_cl_b _) fun _ => e_Ri (fun _ => e_cl_b _) fun _ => e_Ri (fun _ => e_Ri (fun _ => by unfold e_R; omega) fun _ => e_cl_b _) fun _ => e_Ri (fun _ => e_Ri (fun _ => by unfold e_R; omega) fun q => e_fm_b a2 q) fun _ => e_Ri (fun _ => e_Ri (fun _ => a1) fun _ => a2) fun _ => e_Ri (fun _ => e_Ri (fun _ => a1) fun _ => a2) fun _ => absurd c16 (by omega)
  rw [if_neg c16] at ht
  by_cases c19 : -19 ≤ s
  · rw [if_pos c19] at ht
    · obtain ⟨r, et, et'⟩ := e_m2 ht
      refine two false false true r et et' (fun hb ha => ?_)
      show e_op s _ _ = 0 ∨ e_op s _ _ = 1
      unfold e_op
      rw [if_neg (by omega), if_neg (by omega), if_neg (by omega), if_neg (by omega), if_neg (by omega), if_neg (by omega), if_neg (by omega)]
      split
      · split
        · exact Or.inr rfl
        · exact Or.inl rfl
      split
      · split
        · exact Or.inr rfl
        · exact Or.inl rfl
      split
      · split
        · exact Or.inr rfl
        · exact Or.inl rfl
      · exfalso
        omega
  rw [if_neg c19] at ht
  by_cases c21 : -21 ≤ s
  · rw [if_pos c21] at ht
    · obtain ⟨r, et, et'⟩ := e_m4 ht
      refine two true true true r et et' (fun hb ha => ?_)
      have h1 := e_bit _ _ ha.tst hb.tst
      show e_op s _ _ = 0 ∨ e_op s _ _ = 1
      unfold e_op
      rw [if_neg (by omega), if_neg (by omega), if_neg (by omega), if_neg (by omega), if_neg (by omega), if_neg (by omega), if_neg (by omega), if_neg (by omega), if_neg (by omega), if_neg (by omega)]
      split
      · exact h1.1
      · exact h1.2
  · rw [if_neg c21] at ht
    cases ht
end
section
/-! F: what methods do, as functions of the state -/
def zV (v : Value) : Int32 := match v with | .int x => x | _ => 0
def zI (S : dg_S) (i k : Nat) : Int32 := zV (S.1 i k)
def zL (S : dg_S) (i k : Nat) : Int64 := match S.1 i k with | .long x => x | _ => 0
def zR (o : Nat) (S : dg_S) (i k : Nat) : Nat := match S.1 i k with | .ref a => a - o | _ => 0
theorem zV_eq {v : Value} {x : Int32} (h : v = .int x) : x = zV v := by rw [h]; rfl
theorem zI_eq {S : dg_S} {i k : Nat} {x : Int32} (h : S.1 i k = .int x) : x = zI S i k := zV_eq h
theorem zL_eq {S : dg_S} {i k : Nat} {x : Int64} (h : S.1 i k = .long x) : x = zL S i k := by unfold zL; rw [h]
theorem zR_eq {o : Nat} {S : dg_S} {i k d : Nat} (h : S.1 i k = .ref (o + d)) : d = zR o S i k := by
  unfold zR
  rw [h]
  exact (Nat.add_sub_cancel_left o d).symm
theorem dk_neT {x k : Int32} {a b : Int} (j : x.toInt = a) (hk : k.toInt = b) (h : a ≠ b) : ¬ x = k := fun z => h (by rw [← j, ← hk, z])
theorem dk_neO {x k : Int32} {a c b : Int} (j : x.toInt < a ∨ c < x.toInt) (hk : k.toInt = b) (h : a ≤ b ∧ b ≤ c) : ¬ x = k := fun z => by
  rw [z, hk] at j
  omega
theorem dk_eqT {x k : Int32} {a : Int} (j : x.toInt = a) (hk : k.toInt = a) : x = k := Int32.toInt_inj.mp (j.trans hk.symm)
/-- a loop: again, or out -/
def lp0 {σ ρ : Type} (f : σ → σ ⊕ ρ) (z : ρ) : Nat → σ → ρ
  | 0, _ => z
  | n + 1, s => match f s with
    | .inl s' => lp0 f z n s'
    | .inr r => r
/-- the same, but closed: nothing computes it -/
noncomputable def lp {σ ρ : Type} (f : σ → σ ⊕ ρ) (z : ρ) : Nat → σ → ρ := Classical.choose (p := fun g : Nat → σ → ρ => g = lp0 f z) ⟨_, rfl⟩
theorem lp_d {σ ρ : Type} (f : σ → σ ⊕ ρ) (z : ρ) : lp f z = lp0 f z := Classical.choose_spec (p := fun g : Nat → σ → ρ => g = lp0 f z) ⟨_, rfl⟩
theorem lp_z {σ ρ : Type} (f : σ → σ ⊕ ρ) (z : ρ) (s : σ) : lp f z 0 s = z := by rw [lp_d]; rfl
theorem lp_s {σ ρ : Type} (f : σ → σ ⊕ ρ) (z : ρ) (n : Nat) (s : σ) : lp f z (n + 1) s = match f s with | .inl s' => lp f z n s' | .inr r => r := by rw [lp_d]; rfl
theorem lp_l {σ ρ : Type} {f : σ → σ ⊕ ρ} {z T : ρ} {n : Nat} {s s' : σ} (h : T = lp f z (n + 1) s) (e : f s = .inl s') : T = lp f z n s' := by
  rw [h, lp_s, e]
theorem lp_r {σ ρ : Type} {f : σ → σ ⊕ ρ} {z T : ρ} {n : Nat} {s : σ} {r : ρ} (h : T = lp f z (n + 1) s) (e : f s = .inr r) : T = r := by
  rw [h, lp_s, e]
theorem lp_inv {σ ρ : Type} {f : σ → σ ⊕ ρ} {z : ρ} {P : σ → Prop} {Q : ρ → Prop} {μ : σ → Nat} (hl : ∀ s s', P s → f s = .inl s' → P s' ∧ μ s' < μ s) (hr : ∀ s r, P s → f s = .inr r → Q r) : ∀ (n : Nat) (s : σ), P s → μ s < n → Q (lp f z n s)
  | 0, _, _, h => absurd h (Nat.not_lt_zero _)
  | n + 1, s, hp, h => by
    rw [lp_s]
    cases e : f s with
    | inl s' =>
      obtain ⟨h1, h2⟩ := hl s s' hp e
      exact lp_inv hl hr n s' h1 (by omega)
    | inr r => exact hr s r hp e
end
section
/-! what is told of a ground, and STATEMENTS as the class reads them -/
def y_gx (cx ry : Int32) (fm : Nat → Int32) (mi pl : Int32) (fo : Nat → Int32) (od : Int32) (fr fe : Nat → Int32) : y_S := ((cx.toInt, ry.toInt), y_nm fm mi.toNatClampNeg, pl.toNatClampNeg, y_nm fo od.toNatClampNeg, (decide ((fr 0).toInt < (fe 0).toInt), decide ((fr 1).toInt < (fe 1).toInt), decide ((fr 2).toInt < (fe 2).toInt)))
/-- 1: the STATEMENT is taken, σ' is told, the next token is y; else there is none -/
def y_ok (r : Int32) (T : Option (y_S × Nat)) (σ' : y_S) (k y : Nat) : Prop := (r.toInt = 1 → T = some (σ', y) ∧ k < y) ∧ (r.toInt ≠ 1 → T = none)
section YZ
variable {kd vl fm fo fr fe fm' fo' fr' fe' : Nat → Int32} {cx ry mi pl od cx' ry' mi' pl' od' r a1 : Int32} {i k y : Nat} {σ' : y_S}
theorem y_rs {E : Option Nat} {T : Option (y_S × Nat)} (h : g_ans r E y) (e : T = E.map fun k' => (σ', k')) (hl : r.toInt = 1 → k < y) : y_ok r T σ' k y := by
  rw [e]
  exact ⟨fun q => ⟨by rw [h.1 q]; rfl, hl q⟩, fun q => by rw [h.2 q]; rfl⟩
theorem y_ok.no {T : Option (y_S × Nat)} (hr : r.toInt = 0) (h : T = none) : y_ok r T σ' k y := ⟨fun q => absurd q (by omega), fun _ => h⟩
theorem y_num_l {lo hi : Int} {k' : Nat} (h : y_num kd vl lo hi k = some k') : k < k' := by
  have := (y_num_o h).2.2.2
  omega
theorem y_own_l {c : Int} {k' : Nat} (h : y_own kd vl c k = some k') : k < k' := by
  have := (y_own_o h).2
  omega
theorem y_new_l {M O : List Int} {k' : Nat} (h : y_new kd vl M O k = some k') : k < k' := by
  have := (y_new_o h).2
  omega
theorem y_old_l {M : List Int} {k' : Nat} (h : y_old kd vl M k = some k') : k < k' := by
  unfold y_old at h
  split at h
  · cases h
    exact Nat.lt_succ_self k
  · cases h
theorem y_cell_l {q : Int × Int} {k' : Nat} (h : y_cell kd vl q k = some k') : k < k' := by
  unfold y_cell at h
  obtain ⟨j, h1, h2⟩ := g_bind h
  exact Nat.lt_trans (y_num_l h1) (y_num_l h2)
theorem y_one_n (hi : i ≠ 0) {σ : y_S} : y_one kd vl i σ k = y_st kd vl σ k := by
  unfold y_one
  rw [if_neg hi]
theorem y_ok_2 (hi : i ≠ 0) (hk : (kd k).toInt = 1) (hv : (vl k).toInt = 2) (h : g_ans r (y_num kd vl 0 (cx.toInt - 1) (k + 1)) y) : y_ok r (y_one kd vl i (y_gx cx ry fm mi pl fo od fr fe) k) (y_gx cx ry fm mi pl fo od fr fe) k y :=
  y_rs h ((y_one_n hi).trans (y_st_2 hk hv)) fun q => Nat.lt_trans (Nat.lt_succ_self k) (y_num_l (h.1 q))
theorem y_ok_3 (hi : i ≠ 0) (hk : (kd k).toInt = 1) (hv : (vl k).toInt = 3) (h : g_ans r (y_num kd vl 0 20 (k + 1)) y) : y_ok r (y_one kd vl i (y_gx cx ry fm mi pl fo od fr fe) k) (y_gx cx ry fm mi pl fo od fr fe) k y :=
  y_rs h ((y_one_n hi).trans (y_st_3 hk hv)) fun q => Nat.lt_trans (Nat.lt_succ_self k) (y_num_l (h.1 q))
theorem y_ok_4 (hi : i ≠ 0) (hk : (kd k).toInt = 1) (hv : (vl k).toInt = 4) (h : g_ans r (y_num kd vl 0 100 (k + 1)) y) : y_ok r (y_one kd vl i (y_gx cx ry fm mi pl fo od fr fe) k) (y_gx cx ry fm mi pl fo od fr fe) k y :=
  y_rs h ((y_one_n hi).trans (y_st_4 hk hv)) fun q => Nat.lt_trans (Nat.lt_succ_self k) (y_num_l (h.1 q))
theorem y_ok_5 (hi : i ≠ 0) (hk : (kd k).toInt = 1) (hv : (vl k).toInt = 5) (h : g_ans r ((y_cell kd vl (cx.toInt, ry.toInt) (k + 1)).bind (y_num kd vl 0 9)) y) : y_ok r (y_one kd vl i (y_gx cx ry fm mi pl fo od fr fe) k) (y_gx cx ry fm mi pl fo od fr fe) k y :=
  y_rs h ((y_one_n hi).trans (y_st_5 hk hv)) fun q => by
    obtain ⟨j, h1, h2⟩ := g_bind (h.1 q)
    have := y_cell_l h1
    have := y_num_l h2
    omega
theorem y_if {P : Prop} [Decidable P] {E : Option Nat} {f : Nat → y_S × Nat} : (if P then none else E.map f) = (if P then (none : Option Nat) else E).map f := by
  by_cases q : P
  · rw [if_pos q, if_pos q]
    rfl
  · rw [if_neg q, if_neg q]
theorem y_ifs {P : Prop} [Decidable P] {E : Option Nat} (h : (if P then (none : Option Nat) else E) = some y) : E = some y := by
  by_cases q : P
  · rw [if_pos q] at h
    cases h
  · rw [if_neg q] at h
    exact h
theorem y_ok_6 (hi : i ≠ 0) (hk : (kd k).toInt = 1) (hv : (vl k).toInt = 6) (h0 : 0 ≤ mi.toInt) (h : g_ans r (if mi.toInt = 6 then none else y_new kd vl (y_nm fm mi.toNatClampNeg) (y_nm fo od.toNatClampNeg) (k + 1)) y) (hm : r.toInt = 1 → mi'.toInt = mi.toInt + 1) (hf : r.toInt = 1 → ∃ v9 : Int32, v9.toInt = (vl (k + 1)).toInt ∧ fm' = upd fm mi.toNatClampNeg v9) : y_ok r (y_one kd vl i (y_gx cx ry fm mi pl fo od fr fe) k) (y_gx cx ry fm' mi' pl fo od fr fe) k y := by
  have e1 := dk_clN mi
  have e2 := dk_clN mi'
  have hP : ((y_nm fm mi.toNatClampNeg).length = 6) = (mi.toInt = 6) := by
    rw [y_nm_len]
    exact propext ⟨fun q => by omega, fun q => by omega⟩
  have hT := (y_one_n (kd := kd) (vl := vl) (k := k) hi (σ := y_gx cx ry fm mi pl fo od fr fe)).trans (y_st_6 hk hv)
  refine ⟨fun q => ⟨?_, ?_⟩, fun q => ?_⟩
  · obtain ⟨v9, hv9, ef⟩ := hf q
    rw [hT, y_if]
    simp only [hP]
    rw [h.1 q]
    unfold y_gx
    rw [ef, show mi'.toNatClampNeg = mi.toNatClampNeg + 1 by have := hm q; omega, y_nm_add, hv9]
    rfl
  · have := y_new_l (y_ifs (h.1 q))
    omega
  · rw [hT, y_if]
    simp only [hP]
    rw [h.2 q]
    rfl
theorem y_ok_7 (hi : i ≠ 0) (hk : (kd k).toInt = 1) (hv : (vl k).toInt = 7) (h0 : 0 ≤ pl.toInt) (h : g_ans r (if pl.toInt = 16 then none else ((y_old kd vl (y_nm fm mi.toNatClampNeg) (k + 1)).bind fun k1 => (y_own kd vl 8 k1).bind (y_cell kd vl (cx.toInt, ry.toInt)))) y) (hm : r.toInt = 1 → pl'.toInt = pl.toInt + 1) : y_ok r (y_one kd vl i (y_gx cx ry fm mi pl fo od fr fe) k) (y_gx cx ry fm mi pl' fo od fr fe) k y := by
  have e1 := dk_clN pl
  have e2 := dk_clN pl'
  have hP : (pl.toNatClampNeg = 16) = (pl.toInt = 16) := propext ⟨fun q => by omega, fun q => by omega⟩
  have hT := (y_one_n (kd := kd) (vl := vl) (k := k) hi (σ := y_gx cx ry fm mi pl fo od fr fe)).trans (y_st_7 hk hv)
  refine ⟨fun q => ⟨?_, ?_⟩, fun q => ?_⟩
  · rw [hT, y_if]
    simp only [hP]
    rw [h.1 q]
    unfold y_gx
    rw [show pl'.toNatClampNeg = pl.toNatClampNeg + 1 by have := hm q; omega]
    rfl
  · obtain ⟨j, h1, h2⟩ := g_bind (y_ifs (h.1 q))
    obtain ⟨j2, h3, h4⟩ := g_bind h2
    have := y_old_l h1
    have := y_own_l h3
    have := y_cell_l h4
    omega
  · rw [hT, y_if]
    simp only [hP]
    rw [h.2 q]
    rfl
theorem y_ok_9 (hi : i ≠ 0) (hk : (kd k).toInt = 1) (hv : (vl k).toInt = 9) (h0 : 0 ≤ od.toInt) (h : g_ans r (if od.toInt = 5 then none else ((y_new kd vl (y_nm fm mi.toNatClampNeg) (y_nm fo od.toNatClampNeg) (k + 1)).bind fun k1 => (y_own kd vl 5 k1).bind fun k2 => (y_num kd vl 0 9 k2).bind fun k3 => (y_own kd vl 10 k3).bind fun k4 => (y_num kd vl 1 9 k4).bind fun k5 => (y_own kd vl 11 k5).bind (y_num kd vl 0 999))) y) (hm : r.toInt = 1 → od'.toInt = od.toInt + 1) (hf : r.toInt = 1 → ∃ v9 : Int32, v9.toInt = (vl (k + 1)).toInt ∧ fo' = upd fo od.toNatClampNeg v9) : y_ok r (y_one kd vl i (y_gx cx ry fm mi pl fo od fr fe) k) (y_gx cx ry fm mi pl fo' od' fr fe) k y := by
  have e1 := dk_clN od
  have e2 := dk_clN od'
  have hP : ((y_nm fo od.toNatClampNeg).length = 5) = (od.toInt = 5) := by
    rw [y_nm_len]
    exact propext ⟨fun q => by omega, fun q => by omega⟩
  have hT := (y_one_n (kd := kd) (vl := vl) (k := k) hi (σ := y_gx cx ry fm mi pl fo od fr fe)).trans (y_st_9 hk hv)
  refine ⟨fun q => ⟨?_, ?_⟩, fun q => ?_⟩
  · obtain ⟨v9, hv9, ef⟩ := hf q
    rw [hT, y_if]
    simp only [hP]
    rw [h.1 q]
    unfold y_gx
    rw [ef, show od'.toNatClampNeg = od.toNatClampNeg + 1 by have := hm q; omega, y_nm_add, hv9]
    rfl
  · obtain ⟨j, h1, h2⟩ := g_bind (y_ifs (h.1 q))
    obtain ⟨j2, h3, h4⟩ := g_bind h2
    obtain ⟨j3, h5, h6⟩ := g_bind h4
    obtain ⟨j4, h7, h8⟩ := g_bind h6
    obtain ⟨j5, h9, h10⟩ := g_bind h8
    obtain ⟨j6, h11, h12⟩ := g_bind h10
    have := y_new_l h1
    have := y_own_l h3
    have := y_num_l h5
    have := y_own_l h7
    have := y_num_l h9
    have := y_own_l h11
    have := y_num_l h12
    omega
  · rw [hT, y_if]
    simp only [hP]
    rw [h.2 q]
    rfl
theorem y_upd_at {f : Nat → Int32} {j : Nat} {v : Int32} : upd f j v j = v := by
  unfold upd
  rw [if_pos rfl]
theorem y_upd_ne {f : Nat → Int32} {j i : Nat} {v : Int32} (h : i ≠ j) : upd f j v i = f i := by
  unfold upd
  rw [if_neg h]
theorem y_if2 {P : Prop} [Decidable P] {E : Option Nat} {f : Nat → y_S × Nat} : (if decide P = true then none else E.map f) = (if P then (none : Option Nat) else E).map f := by
  by_cases q : P
  · rw [if_pos q, if_pos (decide_eq_true q)]
    rfl
  · rw [if_neg q, if_neg (by rw [decide_eq_false q]; decide)]
theorem y_ok_r0 (hi : i ≠ 0) (hk : (kd k).toInt = 1) (hv : (vl k).toInt = 12) (ha : a1.toInt = 0) (h : g_ans r (if (fr a1.toNatClampNeg).toInt < (fe a1.toNatClampNeg).toInt then none else y_rule kd vl a1.toInt (k + 1)) y) (hu : r.toInt = 1 → ∃ c8 c9 : Int32, c8.toInt < c9.toInt ∧ fr' = upd fr a1.toNatClampNeg c8 ∧ fe' = upd fe a1.toNatClampNeg c9) (hl : r.toInt = 1 → k < y) : y_ok r (y_one kd vl i (y_gx cx ry fm mi pl fo od fr fe) k) (y_gx cx ry fm mi pl fo od fr' fe') k y := by
  have e1 := dk_clN a1
  rw [show a1.toNatClampNeg = 0 by omega] at h hu
  rw [ha] at h
  have hT := (y_one_n (kd := kd) (vl := vl) (k := k) hi (σ := y_gx cx ry fm mi pl fo od fr fe)).trans (y_st_12 hk hv)
  refine ⟨fun q => ⟨?_, hl q⟩, fun q => ?_⟩
  · obtain ⟨c8, c9, hc, ef, ee⟩ := hu q
    rw [hT, y_if2, h.1 q]
    unfold y_gx
    rw [ef, ee, y_upd_at, y_upd_at, decide_eq_true hc, y_upd_ne (i := 1) (by decide), y_upd_ne (i := 1) (by decide), y_upd_ne (i := 2) (by decide), y_upd_ne (i := 2) (by decide)]
    rfl
  · rw [hT, y_if2, h.2 q]
    rfl
theorem y_ok_r1 (hi : i ≠ 0) (hk : (kd k).toInt = 1) (hv : (vl k).toInt = 13) (ha : a1.toInt = 1) (h : g_ans r (if (fr a1.toNatClampNeg).toInt < (fe a1.toNatClampNeg).toInt then none else y_rule kd vl a1.toInt (k + 1)) y) (hu : r.toInt = 1 → ∃ c8 c9 : Int32, c8.toInt < c9.toInt ∧ fr' = upd fr a1.toNatClampNeg c8 ∧ fe' = upd fe a1.toNatClampNeg c9) (hl : r.toInt = 1 → k < y) : y_ok r (y_one kd vl i (y_gx cx ry fm mi pl fo od fr fe) k) (y_gx cx ry fm mi pl fo od fr' fe') k y := by
  have e1 := dk_clN a1
  rw [show a1.toNatClampNeg = 1 by omega] at h hu
  rw [ha] at h
  have hT := (y_one_n (kd := kd) (vl := vl) (k := k) hi (σ := y_gx cx ry fm mi pl fo od fr fe)).trans (y_st_13 hk hv)
  refine ⟨fun q => ⟨?_, hl q⟩, fun q => ?_⟩
  · obtain ⟨c8, c9, hc, ef, ee⟩ := hu q
    rw [hT, y_if2, h.1 q]
    unfold y_gx
    rw [ef, ee, y_upd_at, y_upd_at, decide_eq_true hc, y_upd_ne (i := 0) (by decide), y_upd_ne (i := 0) (by decide), y_upd_ne (i := 2) (by decide), y_upd_ne (i := 2) (by decide)]
    rfl
  · rw [hT, y_if2, h.2 q]
    rfl
theorem y_ok_r2 (hi : i ≠ 0) (hk : (kd k).toInt = 1) (hv : (vl k).toInt = 14) (ha : a1.toInt = 2) (h : g_ans r (if (fr a1.toNatClampNeg).toInt < (fe a1.toNatClampNeg).toInt then none else y_rule kd vl a1.toInt (k + 1)) y) (hu : r.toInt = 1 → ∃ c8 c9 : Int32, c8.toInt < c9.toInt ∧ fr' = upd fr a1.toNatClampNeg c8 ∧ fe' = upd fe a1.toNatClampNeg c9) (hl : r.toInt = 1 → k < y) : y_ok r (y_one kd vl i (y_gx cx ry fm mi pl fo od fr fe) k) (y_gx cx ry fm mi pl fo od fr' fe') k y := by
  have e1 := dk_clN a1
  rw [show a1.toNatClampNeg = 2 by omega] at h hu
  rw [ha] at h
  have hT := (y_one_n (kd := kd) (vl := vl) (k := k) hi (σ := y_gx cx ry fm mi pl fo od fr fe)).trans (y_st_14 hk hv)
  refine ⟨fun q => ⟨?_, hl q⟩, fun q => ?_⟩
  · obtain ⟨c8, c9, hc, ef, ee⟩ := hu q
    rw [hT, y_if2, h.1 q]
    unfold y_gx
    rw [ef, ee, y_upd_at, y_upd_at, decide_eq_true hc, y_upd_ne (i := 0) (by decide), y_upd_ne (i := 0) (by decide), y_upd_ne (i := 1) (by decide), y_upd_ne (i := 1) (by decide)]
    rfl
  · rw [hT, y_if2, h.2 q]
    rfl
theorem y_seam_at (hk : (kd k).toInt = 1) (hv : (vl k).toInt = 0) : y_seam kd vl k = (y_num kd vl 3 7 (k + 1)).bind fun k2 => (y_own kd vl 1 k2).bind (y_num kd vl 3 7) := by
  have e : y_own kd vl 0 k = some (k + 1) := by
    unfold y_own
    rw [g_o_at hk, hv]
    rfl
  unfold y_seam
  rw [e]
  rfl
theorem y_ok_s (hi : i = 0) (hk : (kd k).toInt = 1) (hv : (vl k).toInt = 0) (h : g_ans r ((y_num kd vl 3 7 (k + 1)).bind fun k2 => (y_own kd vl 1 k2).bind (y_num kd vl 3 7)) y) (hc : r.toInt = 1 → cx'.toInt = (vl (k + 1)).toInt) (hr : r.toInt = 1 → ry'.toInt = (vl (k + 3)).toInt) : y_ok r (y_one kd vl i (y_gx cx ry fm mi pl fo od fr fe) k) (y_gx cx' ry' fm mi pl fo od fr fe) k y := by
  have hT : y_one kd vl i (y_gx cx ry fm mi pl fo od fr fe) k = ((y_num kd vl 3 7 (k + 1)).bind fun k2 => (y_own kd vl 1 k2).bind (y_num kd vl 3 7)).map fun k' => ((((vl (k + 1)).toInt, (vl (k + 3)).toInt), (y_gx cx ry fm mi pl fo od fr fe).2), k') := by
    unfold y_one
    rw [if_pos hi, y_seam_at hk hv]
  refine ⟨fun q => ⟨?_, ?_⟩, fun q => ?_⟩
  · rw [hT, h.1 q]
    unfold y_gx
    rw [hc q, hr q]
    rfl
  · obtain ⟨j, h1, h2⟩ := g_bind (h.1 q)
    obtain ⟨j2, h3, h4⟩ := g_bind h2
    have := y_num_l h1
    have := y_own_l h3
    have := y_num_l h4
    omega
  · rw [hT, h.2 q]
    rfl
theorem y_one_k {σ : y_S} (h : (kd k).toInt ≠ 1) : y_one kd vl i σ k = none := by
  by_cases q : i = 0
  · unfold y_one y_seam y_own
    rw [if_pos q, if_neg (by rw [g_o_iff]; omega)]
    rfl
  · rw [y_one_n q]
    exact y_st_no (Or.inl h)
theorem y_one_0 {σ : y_S} (hi : i = 0) (h : (vl k).toInt ≠ 0) : y_one kd vl i σ k = none := by
  unfold y_one y_seam y_own
  rw [if_pos hi, if_neg (by rw [g_o_iff]; omega)]
  rfl
theorem y_one_no {σ : y_S} (hi : i ≠ 0) (h : (kd k).toInt ≠ 1 ∨ ((vl k).toInt ≠ 2 ∧ (vl k).toInt ≠ 3 ∧ (vl k).toInt ≠ 4 ∧ (vl k).toInt ≠ 5 ∧ (vl k).toInt ≠ 6 ∧ (vl k).toInt ≠ 7 ∧ (vl k).toInt ≠ 9 ∧ (vl k).toInt ≠ 12 ∧ (vl k).toInt ≠ 13 ∧ (vl k).toInt ≠ 14)) : y_one kd vl i σ k = none := by
  rw [y_one_n hi]
  exact y_st_no h
/-! a MINE's STATEMENTS, one after another -/
/-- i STATEMENTS are taken, σ is told, the next token is n: what the whole text is hangs on the rest -/
def y_at (kd vl : Nat → Int32) (i : Nat) (σ : y_S) (n : Nat) : Prop := i ≤ 80 ∧ y_mine kd vl = y_go kd vl (80 - i) i σ n
theorem y_at.start (hm : mi.toInt = 0) (hp : pl.toInt = 0) (ho : od.toInt = 0) (hc : cx.toInt = 0) (hr : ry.toInt = 0) (hf : ∀ j : Nat, j < 3 → (fr j).toInt = 0) (he : ∀ j : Nat, j < 3 → (fe j).toInt = 0) (hi : i = 0) (hk : k = 0) : y_at kd vl i (y_gx cx ry fm mi pl fo od fr fe) k := by
  have e1 := dk_clN mi
  have e2 := dk_clN pl
  have e3 := dk_clN od
  have e : y_gx cx ry fm mi pl fo od fr fe = y_0 := by
    unfold y_gx y_0
    rw [hc, hr, show mi.toNatClampNeg = 0 by omega, show pl.toNatClampNeg = 0 by omega, show od.toNatClampNeg = 0 by omega, hf 0 (by decide), hf 1 (by decide), hf 2 (by decide), he 0 (by decide), he 1 (by decide), he 2 (by decide)]
    rfl
  rw [e, hi, hk]
  exact ⟨Nat.zero_le _, rfl⟩
variable {σ : y_S}
theorem y_go_at {f : Nat} (hz : ¬ (i ≠ 0 ∧ (kd k).toInt = 0)) : y_go kd vl (f + 1) i σ k = (y_one kd vl i σ k).bind fun p => (g_tk kd vl 59 p.2).bind fun k' => y_go kd vl f (i + 1) p.1 k' := by
  show (if i ≠ 0 ∧ (kd k).toInt = 0 then some (i, σ) else _) = _
  rw [if_neg hz]
theorem y_at.done (h : y_at kd vl i σ k) (hi : i ≠ 0) (hz : (kd k).toInt = 0) : y_mine kd vl = some (i, σ) := by
  rw [h.2]
  cases q : 80 - i with
  | zero => show (if i ≠ 0 ∧ (kd k).toInt = 0 then some (i, σ) else none) = _; rw [if_pos ⟨hi, hz⟩]
  | succ f => show (if i ≠ 0 ∧ (kd k).toInt = 0 then some (i, σ) else _) = _; rw [if_pos ⟨hi, hz⟩]
theorem y_at.full (h : y_at kd vl i σ k) (hi : i = 80) (hz : ¬ (i ≠ 0 ∧ (kd k).toInt = 0)) : y_mine kd vl = none := by
  rw [h.2, hi]
  rw [hi] at hz
  show (if 80 ≠ 0 ∧ (kd k).toInt = 0 then some (80, σ) else none) = _
  rw [if_neg hz]
theorem y_at.bad (h : y_at kd vl i σ k) (hi : i ≠ 80) (hz : ¬ (i ≠ 0 ∧ (kd k).toInt = 0)) (h1 : y_one kd vl i σ k = none) : y_mine kd vl = none := by
  obtain ⟨f, hf⟩ : ∃ f, 80 - i = f + 1 := ⟨80 - i - 1, by have := h.1; omega⟩
  rw [h.2, hf, y_go_at hz, h1]
  rfl
theorem y_at.opn (h : y_at kd vl i σ k) (hi : i ≠ 80) (hz : ¬ (i ≠ 0 ∧ (kd k).toInt = 0)) (h1 : y_one kd vl i σ k = some (σ', y)) (h2 : g_tk kd vl 59 y = none) : y_mine kd vl = none := by
  obtain ⟨f, hf⟩ : ∃ f, 80 - i = f + 1 := ⟨80 - i - 1, by have := h.1; omega⟩
  rw [h.2, hf, y_go_at hz, h1]
  show (g_tk kd vl 59 y).bind _ = none
  rw [h2]
  rfl
theorem y_at.next {i' k' : Nat} (h : y_at kd vl i σ k) (hi : i ≠ 80) (hz : ¬ (i ≠ 0 ∧ (kd k).toInt = 0)) (h1 : y_one kd vl i σ k = some (σ', y)) (h2 : g_tk kd vl 59 y = some k') (hi' : i' = i + 1) : y_at kd vl i' σ' k' := by
  obtain ⟨f, hf⟩ : ∃ f, 80 - i = f + 1 := ⟨80 - i - 1, by have := h.1; omega⟩
  refine ⟨by have := h.1; omega, ?_⟩
  rw [h.2, hf, y_go_at hz, h1]
  show (g_tk kd vl 59 y).bind _ = _
  rw [h2, hi', show 80 - (i + 1) = f by omega]
  rfl
end YZ
end
section
/-! the reference's parser: what waits on its rows (operators by frames), as numbers -/
def dk_rk (t : Int) : Int := if t = 42 then 1 else if t = 41 then 2 else if t = 43 then 3 else if 38 ≤ t ∧ t ≤ 40 then 4 else if t = 31 ∨ t = 32 then 5 else 6
def dk_lv (t : Int) : Int := if t = 42 then 1 else if t = 41 then 2 else if t = 43 then 2 else if 38 ≤ t ∧ t ≤ 40 then 3 else if t = 31 ∨ t = 32 then 4 else 5
def dk_vo (t : Int) : Prop := (31 ≤ t ∧ t ≤ 35) ∨ (38 ≤ t ∧ t ≤ 43)
theorem dk_rl (t : Int) : (t = 42 ∧ dk_rk t = 1 ∧ dk_lv t = 1) ∨ (t = 41 ∧ dk_rk t = 2 ∧ dk_lv t = 2) ∨ (t = 43 ∧ dk_rk t = 3 ∧ dk_lv t = 2) ∨ (38 ≤ t ∧ t ≤ 40 ∧ dk_rk t = 4 ∧ dk_lv t = 3) ∨ ((t = 31 ∨ t = 32) ∧ dk_rk t = 5 ∧ dk_lv t = 4) ∨ (t ≠ 42 ∧ t ≠ 41 ∧ t ≠ 43 ∧ ¬ (38 ≤ t ∧ t ≤ 40) ∧ t ≠ 31 ∧ t ≠ 32 ∧ dk_rk t = 6 ∧ dk_lv t = 5) := by
  unfold dk_rk dk_lv
  by_cases h1 : t = 42
  · simp [h1]
  by_cases h2 : t = 41
  · simp [h2]
  by_cases h3 : t = 43
  · simp [h3]
  by_cases h4 : 38 ≤ t ∧ t ≤ 40
  · simp [h1, h2, h3, h4]
  by_cases h5 : t = 31 ∨ t = 32
  · simp [h1, h2, h3, h4, h5]
  · rw [if_neg h1, if_neg h2, if_neg h3, if_neg h4, if_neg h5, if_neg h1, if_neg h2, if_neg h3, if_neg h4, if_neg h5]
    omega
theorem dk_cnt_congr {f g : Nat → Int32} {k : Int} : ∀ {n : Nat}, (∀ j, j < n → g j = f j) → dk_cnt g k n = dk_cnt f k n
  | 0, _ => rfl
  | n + 1, h => by
    have ih := dk_cnt_congr (f := f) (g := g) (k := k) (n := n) (fun j hj => h j (by omega))
    unfold dk_cnt
    rw [ih, h n (by omega)]
theorem dk_cnt_mono {f : Nat → Int32} {k : Int} {m : Nat} : ∀ {n : Nat}, m ≤ n → dk_cnt f k m ≤ dk_cnt f k n
  | 0, h => by
    have e : m = 0 := by omega
    subst e
    exact Nat.le_refl _
  | n + 1, h => by
    by_cases q : m = n + 1
    · subst q
      exact Nat.le_refl _
    · have ih := dk_cnt_mono (f := f) (k := k) (m := m) (n := n) (by omega)
      have e : dk_cnt f k (n + 1) = dk_cnt f k n + if (f n).toInt = k then 1 else 0 := rfl
      rw [e]
      omega
theorem dk_cnt_s (f : Nat → Int32) (k : Int) (n : Nat) : ((f n).toInt = k ∧ dk_cnt f k (n + 1) = dk_cnt f k n + 1) ∨ ((f n).toInt ≠ k ∧ dk_cnt f k (n + 1) = dk_cnt f k n) := by
  have e : dk_cnt f k (n + 1) = dk_cnt f k n + if (f n).toInt = k then 1 else 0 := rfl
  by_cases h : (f n).toInt = k
  · exact Or.inl ⟨h, by rw [e, if_pos h]⟩
  · exact Or.inr ⟨h, by rw [e, if_neg h, Nat.add_zero]⟩
/-- one frame's operators: their ranks rise (NOT may follow NOT), so they are few -/
def dk_seg (o : Nat → Int32) (lo hi : Nat) (l4 l3 : Prop) (c : Int) : Prop := ∀ i : Nat, lo ≤ i → i < hi → dk_vo (o i).toInt ∧ ((i : Int) + 1 - (dk_cnt o 43 (i + 1) : Int) ≤ c + dk_lv (o i).toInt) ∧ (∀ i' : Nat, i ≤ i' → i' < hi → dk_rk (o i).toInt ≤ dk_rk (o i').toInt) ∧ (l4 → dk_rk (o i).toInt ≠ 4) ∧ (l3 → dk_rk (o i).toInt ≤ 3)
theorem dk_seg.nil {o : Nat → Int32} {lo hi : Nat} {l4 l3 : Prop} {c : Int} (h : hi ≤ lo) : dk_seg o lo hi l4 l3 c := fun i h1 h2 => absurd h2 (by omega)
theorem dk_seg.pop {o : Nat → Int32} {lo hi hi' : Nat} {l4 l3 : Prop} {c : Int} (h : dk_seg o lo hi l4 l3 c) (hh : hi' ≤ hi) : dk_seg o lo hi' l4 l3 c := fun i h1 h2 => ⟨(h i h1 (by omega)).1, (h i h1 (by omega)).2.1, fun i' h3 h4 => (h i h1 (by omega)).2.2.1 i' h3 (by omega), (h i h1 (by omega)).2.2.2⟩
theorem dk_seg.lim {o : Nat → Int32} {lo hi : Nat} {l4 l3 l4' l3' : Prop} {c : Int} (h : dk_seg o lo hi l4 l3 c) (h4 : ∀ i, lo ≤ i → i < hi → l4' → dk_rk (o i).toInt ≠ 4) (h3 : ∀ i, lo ≤ i → i < hi → l3' → dk_rk (o i).toInt ≤ 3) : dk_seg o lo hi l4' l3' c := fun i h1 h2 => ⟨(h i h1 h2).1, (h i h1 h2).2.1, (h i h1 h2).2.2.1, h4 i h1 h2, h3 i h1 h2⟩
theorem dk_seg.congr {o o' : Nat → Int32} {lo hi : Nat} {l4 l3 : Prop} {c : Int} (h : dk_seg o lo hi l4 l3 c) (e : ∀ i, i < hi → o' i = o i) : dk_seg o' lo hi l4 l3 c := by
  intro i h1 h2
  obtain ⟨a, b, d, f⟩ := h i h1 h2
  rw [e i h2, dk_cnt_congr (f := o) (g := o') (n := i + 1) (fun j hj => e j (by omega))]
  exact ⟨a, b, fun i' h3 h4 => by rw [e i' h4]; exact d i' h3 h4, f⟩
theorem dk_seg.push {o o' : Nat → Int32} {t : Int32} {lo hi : Nat} {l4 l3 l4' l3' : Prop} {c : Int} (h : dk_seg o lo hi l4 l3 c) (e : o' = upd o hi t) (hl : lo ≤ hi) (hv : dk_vo t.toInt) (hc : (lo : Int) - (dk_cnt o 43 lo : Int) ≤ c) (ht : hi = lo ∨ dk_rk (o (hi - 1)).toInt < dk_rk t.toInt ∨ (t.toInt = 43 ∧ dk_rk (o (hi - 1)).toInt ≤ 3))
    (h4 : l4' → (∀ i, lo ≤ i → i < hi → dk_rk (o i).toInt ≠ 4) ∧ dk_rk t.toInt ≠ 4) (h3 : l3' → (∀ i, lo ≤ i → i < hi → dk_rk (o i).toInt ≤ 3) ∧ dk_rk t.toInt ≤ 3) : dk_seg o' lo (hi + 1) l4' l3' c := by
  have e0 : o' hi = t := by rw [e]; unfold upd; rw [if_pos rfl]
  have e1 : ∀ i, i < hi → o' i = o i := fun i hi2 => by rw [e]; unfold upd; rw [if_neg (by omega)]
  have rt := dk_rl t.toInt
  intro i h1 h2
  by_cases q : i = hi
  · subst q
    rw [e0]
    have k1 := dk_cnt_s o' 43 i
    rw [e0, dk_cnt_congr (f := o) (g := o') (n := i) e1] at k1
    refine ⟨hv, ?_, fun i' h5 h6 => ?_, fun q4 => (h4 q4).2, fun q3 => (h3 q3).2⟩
    · rcases ht with ht | ht
      · subst ht
        omega
      · by_cases z : i = lo
        · subst z
          omega
        · obtain ⟨-, b, -⟩ := h (i - 1) (by omega) (by omega)
          have r1 := dk_rl (o (i - 1)).toInt
          rw [show i - 1 + 1 = i by omega] at b
          have b2 : ((i - 1 : Nat) : Int) = (i : Int) - 1 := by omega
          omega
    · have z : i' = i := by omega
      subst z
      rw [e0]
      exact Int.le_refl _
  · obtain ⟨a, b, d, f⟩ := h i h1 (by omega)
    rw [e1 i (by omega), dk_cnt_congr (f := o) (g := o') (n := i + 1) (fun j hj => e1 j (by omega))]
    refine ⟨a, b, fun i' h5 h6 => ?_, fun q4 => (h4 q4).1 i h1 (by omega), fun q3 => (h3 q3).1 i h1 (by omega)⟩
    by_cases z : i' = hi
    · subst z
      rw [e0]
      have d1 := d (i' - 1) (by omega) (by omega)
      have r1 := dk_rl (o (i' - 1)).toInt
      rcases ht with ht | ht
      · omega
      · omega
    · rw [e1 i' (by omega)]
      exact d i' h5 (by omega)
/-- a frame that holds a TEST -/
def dk_ts (k : Int) : Prop := k = 1 ∨ k = 5 ∨ k = 6
def dk_hi (bs : Nat → Int32) (d n j : Nat) : Nat := if j + 1 < d then (bs (j + 1)).toInt.toNat else n
/-- how many values wait for a frame's own end -/
def dk_ex1 (k p : Int) : Int := if k = 4 then (if p = 44 then 2 else 1) else if k = 3 ∧ p = 44 then 1 else 0
def dk_ex (fr pr : Nat → Int32) : Nat → Int
  | 0 => 0
  | j + 1 => dk_ex fr pr j + dk_ex1 (fr j).toInt (pr j).toInt
theorem dk_ex1_b (k p : Int) : 0 ≤ dk_ex1 k p ∧ dk_ex1 k p ≤ 2 := by
  unfold dk_ex1
  split
  · split <;> omega
  · split <;> omega
theorem dk_ex_b (fr pr : Nat → Int32) : ∀ d : Nat, 0 ≤ dk_ex fr pr d ∧ dk_ex fr pr d ≤ 2 * (d : Int)
  | 0 => ⟨Int.le_refl _, Int.le_refl _⟩
  | d + 1 => by
    have ih := dk_ex_b fr pr d
    have h := dk_ex1_b (fr d).toInt (pr d).toInt
    have e : dk_ex fr pr (d + 1) = dk_ex fr pr d + dk_ex1 (fr d).toInt (pr d).toInt := rfl
    rw [e]
    omega
theorem dk_ex_congr {fr pr fr' pr' : Nat → Int32} : ∀ {d : Nat}, (∀ j, j < d → fr' j = fr j) → (∀ j, j < d → pr' j = pr j) → dk_ex fr' pr' d = dk_ex fr pr d
  | 0, _, _ => rfl
  | d + 1, h1, h2 => by
    have ih := dk_ex_congr (fr := fr) (pr := pr) (fr' := fr') (pr' := pr') (d := d) (fun j hj => h1 j (by omega)) (fun j hj => h2 j (by omega))
    show dk_ex fr' pr' d + _ = dk_ex fr pr d + _
    rw [ih, h1 d (by omega), h2 d (by omega)]
/-- kinds of frames: 0 a SUM, 1 a TEST, 2 ( SUM, 3 a pair's first, 4 its second, 5 [ TEST, 6 if's TEST -/
def dk_fk (j : Nat) (k p : Int) : Prop := (j = 0 → k ≤ 1) ∧ 0 ≤ k ∧ k ≤ 6 ∧ ((k = 3 ∨ k = 4) → (p = 36 ∨ p = 37 ∨ p = 44)) ∧ (k = 6 → p = 44)
def dk_fs (fr ph bg pr bs o : Nat → Int32) (d n : Nat) (on : Int) : Prop :=
  (1 ≤ d ∧ on = (d : Int) - 1 + (dk_cnt o 43 n : Int) ∧ on ≤ 7) ∧
  ∀ j : Nat, j < d → (0 ≤ (bs j).toInt ∧ (bs j).toInt.toNat ≤ dk_hi bs d n j) ∧ (((bs j).toInt.toNat : Int) - (dk_cnt o 43 (bs j).toInt.toNat : Int) ≤ 5 * (j : Int)) ∧ dk_seg o (bs j).toInt.toNat (dk_hi bs d n j) (dk_ts (fr j).toInt ∧ (ph j).toInt = 0) (dk_ts (fr j).toInt ∧ (bg j).toInt = 1) (5 * (j : Int)) ∧ dk_fk j (fr j).toInt (pr j).toInt ∧ (j + 1 < d → (bg j).toInt = 0)
section DKFS
variable {fr ph bg pr bs o : Nat → Int32} {d n : Nat} {on : Int}
theorem dk_hi_top (h : 1 ≤ d) : dk_hi bs d n (d - 1) = n := by
  unfold dk_hi
  rw [if_neg (by omega)]
/-- the ops below the top: few -/
theorem dk_fs.few (h : dk_fs fr ph bg pr bs o d n on) : (n : Int) - (dk_cnt o 43 n : Int) ≤ 5 * (d : Int) := by
  obtain ⟨⟨h1, h2, h3⟩, h4⟩ := h
  obtain ⟨⟨a1, a2⟩, a3, a4, -⟩ := h4 (d - 1) (by omega)
  rw [dk_hi_top h1] at a2 a4
  by_cases q : n = (bs (d - 1)).toInt.toNat
  · rw [← q] at a3
    omega
  · obtain ⟨-, b, -⟩ := a4 (n - 1) (by omega) (by omega)
    rw [show n - 1 + 1 = n by omega] at b
    have r := dk_rl (o (n - 1)).toInt
    omega
theorem dk_fs.bound (h : dk_fs fr ph bg pr bs o d n on) : d ≤ 8 ∧ n ≤ 47 := by
  have h5 := h.few
  obtain ⟨⟨h1, h2, h3⟩, -⟩ := h
  omega
theorem dk_fs.top (h : dk_fs fr ph bg pr bs o d n on) : 0 ≤ (bs (d - 1)).toInt ∧ (bs (d - 1)).toInt.toNat ≤ n ∧ (((bs (d - 1)).toInt.toNat : Int) - (dk_cnt o 43 (bs (d - 1)).toInt.toNat : Int) ≤ 5 * ((d - 1 : Nat) : Int)) ∧ dk_seg o (bs (d - 1)).toInt.toNat n (dk_ts (fr (d - 1)).toInt ∧ (ph (d - 1)).toInt = 0) (dk_ts (fr (d - 1)).toInt ∧ (bg (d - 1)).toInt = 1) (5 * ((d - 1 : Nat) : Int)) ∧ dk_fk (d - 1) (fr (d - 1)).toInt (pr (d - 1)).toInt := by
  have hd : 1 ≤ d := h.1.1
  obtain ⟨⟨a1, a2⟩, a3, a4, a5, -⟩ := h.2 (d - 1) (by omega)
  rw [dk_hi_top hd] at a2 a4
  exact ⟨a1, a2, a3, a4, a5⟩
/-- all but the top frame's own part is as before -/
theorem dk_fs.mk {fr' ph' bg' pr' o' : Nat → Int32} {n' : Nat} {on' : Int} (h : dk_fs fr ph bg pr bs o d n on) (hfr : ∀ j, j + 1 < d → fr' j = fr j) (hph : ∀ j, j + 1 < d → ph' j = ph j) (hbg : ∀ j, j + 1 < d → bg' j = bg j) (hpr : ∀ j, j + 1 < d → pr' j = pr j) (ho : ∀ i, i < (bs (d - 1)).toInt.toNat → o' i = o i) (hon : on' = (d : Int) - 1 + (dk_cnt o' 43 n' : Int)) (h7 : on' ≤ 7)
    (hn : (bs (d - 1)).toInt.toNat ≤ n') (ht : dk_seg o' (bs (d - 1)).toInt.toNat n' (dk_ts (fr' (d - 1)).toInt ∧ (ph' (d - 1)).toInt = 0) (dk_ts (fr' (d - 1)).toInt ∧ (bg' (d - 1)).toInt = 1) (5 * ((d - 1 : Nat) : Int))) (hk : dk_fk (d - 1) (fr' (d - 1)).toInt (pr' (d - 1)).toInt) : dk_fs fr' ph' bg' pr' bs o' d n' on' := by
  have hd : 1 ≤ d := h.1.1
  have low : ∀ j, j + 1 < d → (bs (j + 1)).toInt.toNat ≤ (bs (d - 1)).toInt.toNat := by
    intro j hj
    have key : ∀ k, j + 1 + k < d → (bs (j + 1)).toInt.toNat ≤ (bs (j + 1 + k)).toInt.toNat := by
      intro k
      induction k with
      | zero => intro _; exact Nat.le_refl _
      | succ k ih =>
        intro hk2
        have h1 := ih (by omega)
        have h2 := (h.2 (j + 1 + k) (by omega)).1.2
        unfold dk_hi at h2
        rw [if_pos (by omega)] at h2
        exact Nat.le_trans h1 h2
    have h3 := key (d - 1 - (j + 1)) (by omega)
    rwa [show j + 1 + (d - 1 - (j + 1)) = d - 1 by omega] at h3
  refine ⟨⟨hd, hon, h7⟩, fun j hj => ?_⟩
  obtain ⟨⟨a1, a2⟩, a3, a4, a5, a6⟩ := h.2 j hj
  by_cases q : j + 1 < d
  · have hle := low j q
    have e1 : dk_hi bs d n' j = dk_hi bs d n j := by
      unfold dk_hi
      rw [if_pos q, if_pos q]
    have e2 : dk_hi bs d n j = (bs (j + 1)).toInt.toNat := by
      unfold dk_hi
      rw [if_pos q]
    rw [e1, hfr j q, hph j q, hbg j q, hpr j q]
    rw [e2] at a2 a4 ⊢
    refine ⟨⟨a1, a2⟩, ?_, a4.congr (fun i hi => ho i (by omega)), a5, a6⟩
    rw [dk_cnt_congr (f := o) (g := o') (n := (bs j).toInt.toNat) (fun i hi => ho i (by omega))]
    exact a3
  · have e : j = d - 1 := by omega
    subst e
    rw [dk_hi_top hd]
    refine ⟨⟨a1, hn⟩, ?_, ht, hk, fun z => absurd z q⟩
    rw [dk_cnt_congr (f := o) (g := o') (n := (bs (d - 1)).toInt.toNat) (fun i hi => ho i hi)]
    exact a3
theorem dk_fs.pop1 {on' : Int} (h : dk_fs fr ph bg pr bs o d n on) (hn : (bs (d - 1)).toInt.toNat < n) (hon : on' = on - (if (o (n - 1)).toInt = 43 then 1 else 0)) : dk_fs fr ph bg pr bs o d (n - 1) on' := by
  obtain ⟨a1, a2, a3, a4, a5⟩ := h.top
  have k := dk_cnt_s o 43 (n - 1)
  rw [show n - 1 + 1 = n by omega] at k
  have h2 := h.1.2.1
  have h3 := h.1.2.2
  refine h.mk (fun _ _ => rfl) (fun _ _ => rfl) (fun _ _ => rfl) (fun _ _ => rfl) (fun _ _ => rfl) ?_ ?_ (by omega) (a4.pop (by omega)) a5
  · rcases k with ⟨k1, k2⟩ | ⟨k1, k2⟩
    · rw [if_pos k1] at hon
      omega
    · rw [if_neg k1] at hon
      omega
  · split at hon <;> omega
theorem dk_fs.push {ph' bg' o' : Nat → Int32} {t : Int32} {on' : Int} (h : dk_fs fr ph bg pr bs o d n on) (e : o' = upd o n t) (hph : ∀ j, j + 1 < d → ph' j = ph j) (hbg : ∀ j, j + 1 < d → bg' j = bg j) (hv : dk_vo t.toInt) (hon : on' = on + (if t.toInt = 43 then 1 else 0)) (h7 : on' ≤ 7) (ht : n = (bs (d - 1)).toInt.toNat ∨ dk_rk (o (n - 1)).toInt < dk_rk t.toInt ∨ (t.toInt = 43 ∧ dk_rk (o (n - 1)).toInt ≤ 3))
    (h4 : dk_ts (fr (d - 1)).toInt ∧ (ph' (d - 1)).toInt = 0 → (∀ i, (bs (d - 1)).toInt.toNat ≤ i → i < n → dk_rk (o i).toInt ≠ 4) ∧ dk_rk t.toInt ≠ 4) (h3 : dk_ts (fr (d - 1)).toInt ∧ (bg' (d - 1)).toInt = 1 → (∀ i, (bs (d - 1)).toInt.toNat ≤ i → i < n → dk_rk (o i).toInt ≤ 3) ∧ dk_rk t.toInt ≤ 3) : dk_fs fr ph' bg' pr bs o' d (n + 1) on' := by
  obtain ⟨a1, a2, a3, a4, a5⟩ := h.top
  have e1 : ∀ i, i < n → o' i = o i := fun i hi2 => by rw [e]; unfold upd; rw [if_neg (by omega)]
  have e0 : o' n = t := by rw [e]; unfold upd; rw [if_pos rfl]
  have k := dk_cnt_s o' 43 n
  rw [e0, dk_cnt_congr (f := o) (g := o') (n := n) e1] at k
  have h2 := h.1.2.1
  refine h.mk (fun _ _ => rfl) hph hbg (fun _ _ => rfl) (fun i hi => e1 i (by omega)) ?_ h7 (by omega) (a4.push e a2 hv a3 ht h4 h3) a5
  rcases k with ⟨k1, k2⟩ | ⟨k1, k2⟩
  · rw [if_pos k1] at hon
    omega
  · rw [if_neg k1] at hon
    omega
theorem dk_fs.flag {fr' ph' bg' pr' : Nat → Int32} (h : dk_fs fr ph bg pr bs o d n on) (hfr : ∀ j, j + 1 < d → fr' j = fr j) (hph : ∀ j, j + 1 < d → ph' j = ph j) (hbg : ∀ j, j + 1 < d → bg' j = bg j) (hpr : ∀ j, j + 1 < d → pr' j = pr j) (h4 : ∀ i, (bs (d - 1)).toInt.toNat ≤ i → i < n → dk_ts (fr' (d - 1)).toInt ∧ (ph' (d - 1)).toInt = 0 → dk_rk (o i).toInt ≠ 4) (h3 : ∀ i, (bs (d - 1)).toInt.toNat ≤ i → i < n → dk_ts (fr' (d - 1)).toInt ∧ (bg' (d - 1)).toInt = 1 → dk_rk (o i).toInt ≤ 3) (hk : dk_fk (d - 1) (fr' (d - 1)).toInt (pr' (d - 1)).toInt) : dk_fs fr' ph' bg' pr' bs o d n on := by
  obtain ⟨a1, a2, a3, a4, a5⟩ := h.top
  exact h.mk hfr hph hbg hpr (fun _ _ => rfl) h.1.2.1 h.1.2.2 a2 (a4.lim h4 h3) hk
theorem dk_fs.opens {fr' ph' bg' pr' bs' : Nat → Int32} (h : dk_fs fr ph bg pr bs o d n on) (hb0 : (bg (d - 1)).toInt = 0) (hfr : ∀ j, j < d → fr' j = fr j) (hph : ∀ j, j < d → ph' j = ph j) (hbg : ∀ j, j < d → bg' j = bg j) (hpr : ∀ j, j < d → pr' j = pr j) (hbs : ∀ j, j < d → bs' j = bs j) (hb : (bs' d).toInt = (n : Int)) (hk : dk_fk d (fr' d).toInt (pr' d).toInt) (h7 : on + 1 ≤ 7) : dk_fs fr' ph' bg' pr' bs' o (d + 1) n (on + 1) := by
  have hf := h.few
  obtain ⟨⟨h1, h2, h3⟩, h4⟩ := h
  refine ⟨⟨by omega, by omega, h7⟩, fun j hj => ?_⟩
  by_cases q : j < d
  · obtain ⟨⟨a1, a2⟩, a3, a4, a5, a6⟩ := h4 j q
    have e : dk_hi bs' (d + 1) n j = dk_hi bs d n j := by
      unfold dk_hi
      rw [if_pos (by omega)]
      by_cases z : j + 1 < d
      · rw [if_pos z, hbs (j + 1) z]
      · rw [if_neg z, show j + 1 = d by omega]
        omega
    rw [e, hfr j q, hph j q, hbg j q, hpr j q, hbs j q]
    refine ⟨⟨a1, a2⟩, a3, a4, a5, fun _ => ?_⟩
    by_cases z : j + 1 < d
    · exact a6 z
    · rw [show j = d - 1 by omega]
      exact hb0
  · have e : j = d := by omega
    subst e
    have eh : dk_hi bs' (j + 1) n j = n := by
      unfold dk_hi
      rw [if_neg (by omega)]
    have en : (bs' j).toInt.toNat = n := by omega
    rw [eh, en]
    exact ⟨⟨by omega, Nat.le_refl _⟩, hf, dk_seg.nil (Nat.le_refl _), hk, fun z => absurd z (by omega)⟩
theorem dk_fs.close {ph' : Nat → Int32} (h : dk_fs fr ph bg pr bs o d n on) (hd : 2 ≤ d) (hn : n = (bs (d - 1)).toInt.toNat) (hph : ∀ j, j + 2 < d → ph' j = ph j) (h2 : ph' (d - 2) = ph (d - 2) ∨ (ph' (d - 2)).toInt ≠ 0) : dk_fs fr ph' bg pr bs o (d - 1) n (on - 1) := by
  obtain ⟨⟨h1, h2', h3⟩, h4⟩ := h
  refine ⟨⟨by omega, by omega, by omega⟩, fun j hj => ?_⟩
  obtain ⟨⟨a1, a2⟩, a3, a4, a5, a6⟩ := h4 j (by omega)
  have e : dk_hi bs (d - 1) n j = dk_hi bs d n j := by
    unfold dk_hi
    rw [if_pos (show j + 1 < d by omega)]
    by_cases z : j + 1 < d - 1
    · rw [if_pos z]
    · rw [if_neg z, hn, show j + 1 = d - 1 by omega]
  rw [e]
  refine ⟨⟨a1, a2⟩, a3, ?_, a5, fun z => a6 (by omega)⟩
  by_cases z : j + 2 < d
  · rw [hph j z]
    exact a4
  · have ej : j = d - 2 := by omega
    subst ej
    rcases h2 with q | q
    · rw [q]
      exact a4
    · exact a4.lim (fun i i1 i2 w => absurd w.2 q) (fun i i1 i2 w => (a4 i i1 i2).2.2.2.2 w)
/-- the first frame -/
theorem dk_fs.first {k : Int} (hn : n = 0) (h0 : (bs 0).toInt = 0) (hk : (fr 0).toInt = k) (hk2 : k = 0 ∨ k = 1) : dk_fs fr ph bg pr bs o 1 n 0 := by
  subst hn
  refine ⟨⟨Nat.le_refl _, rfl, by omega⟩, fun j hj => ?_⟩
  have e : j = 0 := by omega
  subst e
  have eh : dk_hi bs 1 0 0 = 0 := rfl
  rw [eh, h0]
  have c0 : dk_cnt o 43 (0 : Int).toNat = 0 := rfl
  refine ⟨⟨by omega, by decide⟩, by rw [c0]; decide, dk_seg.nil (Nat.zero_le _), ?_, fun z => absurd z (by omega)⟩
  unfold dk_fk
  omega
end DKFS
end
section
/-! the shape of the reference's region -/
def shM : List dg_q := [(0, 12, 77, 0), (1, 0, 1800, 1), (1, 0, 2, 2), (1, 0, 2, 3), (1, 0, 2, 4), (1, 0, 2, 5), (1, 0, 2, 6), (1, 0, 128, 7), (1, 0, 2, 8), (1, 0, 2, 9), (1, 0, 32, 10), (1, 0, 32, 11), (1, 0, 2, 12), (1, 0, 10, 13), (1, 0, 10, 14), (1, 0, 10, 15), (1, 0, 6, 16), (1, 0, 6, 17), (1, 0, 3200, 18), (1, 0, 3200, 19), (2, 0, 12, 20), (2, 0, 10, 21), (1, 0, 20, 22), (1, 0, 20, 23), (3, 0, 20, 24), (1, 0, 20, 25), (1, 0, 20, 26), (1, 0, 500, 27), (1, 0, 6, 28), (1, 0, 22, 29), (1, 0, 22, 30), (1, 0, 1408, 31), (1, 0, 1408, 32), (1, 0, 22, 33), (1, 0, 22, 34), (1, 0, 352, 35), (1, 0, 352, 36), (1, 0, 220, 37), (1, 0, 22, 38), (1, 0, 3520, 39), (2, 0, 500, 40), (1, 0, 10, 41), (1, 0, 64, 42), (1, 0, 64, 43), (1, 0, 64, 44), (1, 0, 16, 45), (1, 0, 16, 46), (1, 0, 16, 47), (1, 0, 41664, 48), (1, 0, 11, 49), (1, 0, 150, 50)]
def tFM : List (List dg_t) := [[(3, 1, 0), (1, 0, 1600), (1, 0, 1600), (1, 0, 3), (1, 0, 1600), (1, 0, 1600), (1, 0, 9999), (2, 0, 0), (1, 0, 6), (1, (-2147483648), 2147483647), (1, (-2147483648), 2147483647), (1, (-2147483648), 2147483647), (1, (-2147483648), 2147483647), (1, 0, 1), (3, 2, 0), (3, 3, 0), (3, 4, 0), (3, 5, 0), (3, 6, 0), (3, 7, 0), (3, 8, 0), (3, 9, 0), (3, 10, 0), (3, 11, 0), (3, 12, 0), (3, 13, 0), (3, 14, 0), (3, 15, 0), (3, 16, 0), (3, 17, 0), (3, 18, 0), (3, 19, 0), (3, 20, 0), (3, 21, 0), (1, 0, 1600), (1, 0, 1), (1, 0, 2), (3, 22, 0), (3, 23, 0), (3, 24, 0), (3, 25, 0), (3, 26, 0), (1, 0, 20), (1, (-2147483648), 2147483647), (3, 27, 0), (1, 0, 500), (1, 0, 1), (1, 0, 1), (3, 28, 0), (3, 29, 0), (3, 30, 0), (3, 31, 0), (3, 32, 0), (3, 33, 0), (3, 34, 0), (3, 35, 0), (3, 36, 0), (3, 37, 0), (3, 38, 0), (3, 39, 0), (1, 0, 19), (1, 0, 20), (2, 0, 0), (1, (-2147483648), 2147483647), (3, 40, 0), (3, 41, 0), (3, 42, 0), (3, 43, 0), (3, 44, 0), (1, 0, 16), (3, 45, 0), (3, 46, 0), (3, 47, 0), (3, 48, 0), (3, 49, 0), (3, 50, 0), (1, 0, 150)], [], [], [], [], [], [], [], [], [], [], [], [], [], [], [], [], [], [], [], [], [], [], [], [], [], [], [], [], [], [], [], [], [], [], [], [], [], [], [], [], [], [], [], [], [], [], [], [], [], []]
def tAM : List dg_t := [(0, 0, 0), (1, 0, 255), (1, 0, 9999), (1, 0, 9999), (1, 0, 9999), (1, 0, 9999), (1, 0, 9999), (1, 0, 9), (1, 0, 6), (1, 0, 16), (0, 0, 0), (1, 0, 63), (1, 0, 5), (1, 0, 9999), (0, 0, 0), (0, 0, 0), (1, (-1), 1600), (1, 0, 1600), (1, 0, 44), (1, 0, 9999), (0, 0, 0), (0, 0, 0), (1, 0, 6), (1, 0, 2), (1, 0, 1), (0, 0, 0), (1, 0, 500), (0, 0, 0), (0, 0, 0), (1, 0, 2000), (0, 0, 0), (1, (-1), 9), (0, 0, 0), (0, 0, 0), (0, 0, 0), (0, 0, 0), (1, 0, 63), (0, 0, 0), (1, 0, 40), (0, 0, 0), (0, 0, 0), (0, 0, 0), (0, 0, 0), (1, 0, 63), (1, 0, 9), (1, 0, 255), (1, 0, 63), (0, 0, 0), (1, (-1), 9), (0, 0, 0), (0, 0, 0)]
def alM : List (List Nat) := []
abbrev CM (o : Nat) (S : dg_S) : Prop := dg_I alM tFM tAM shM o S
theorem sM_0 : shM[0]? = some (0, 12, 77, 0) := by decide +kernel
theorem sM_1 : shM[1]? = some (1, 0, 1800, 1) := by decide +kernel
theorem sM_2 : shM[2]? = some (1, 0, 2, 2) := by decide +kernel
theorem sM_3 : shM[3]? = some (1, 0, 2, 3) := by decide +kernel
theorem sM_4 : shM[4]? = some (1, 0, 2, 4) := by decide +kernel
theorem sM_5 : shM[5]? = some (1, 0, 2, 5) := by decide +kernel
theorem sM_6 : shM[6]? = some (1, 0, 2, 6) := by decide +kernel
theorem sM_7 : shM[7]? = some (1, 0, 128, 7) := by decide +kernel
theorem sM_8 : shM[8]? = some (1, 0, 2, 8) := by decide +kernel
theorem sM_9 : shM[9]? = some (1, 0, 2, 9) := by decide +kernel
theorem sM_10 : shM[10]? = some (1, 0, 32, 10) := by decide +kernel
theorem sM_11 : shM[11]? = some (1, 0, 32, 11) := by decide +kernel
theorem sM_12 : shM[12]? = some (1, 0, 2, 12) := by decide +kernel
theorem sM_13 : shM[13]? = some (1, 0, 10, 13) := by decide +kernel
theorem sM_14 : shM[14]? = some (1, 0, 10, 14) := by decide +kernel
theorem sM_15 : shM[15]? = some (1, 0, 10, 15) := by decide +kernel
theorem sM_16 : shM[16]? = some (1, 0, 6, 16) := by decide +kernel
theorem sM_17 : shM[17]? = some (1, 0, 6, 17) := by decide +kernel
theorem sM_18 : shM[18]? = some (1, 0, 3200, 18) := by decide +kernel
theorem sM_19 : shM[19]? = some (1, 0, 3200, 19) := by decide +kernel
theorem sM_20 : shM[20]? = some (2, 0, 12, 20) := by decide +kernel
theorem sM_21 : shM[21]? = some (2, 0, 10, 21) := by decide +kernel
theorem sM_22 : shM[22]? = some (1, 0, 20, 22) := by decide +kernel
theorem sM_23 : shM[23]? = some (1, 0, 20, 23) := by decide +kernel
theorem sM_24 : shM[24]? = some (3, 0, 20, 24) := by decide +kernel
theorem sM_25 : shM[25]? = some (1, 0, 20, 25) := by decide +kernel
theorem sM_26 : shM[26]? = some (1, 0, 20, 26) := by decide +kernel
theorem sM_27 : shM[27]? = some (1, 0, 500, 27) := by decide +kernel
theorem sM_28 : shM[28]? = some (1, 0, 6, 28) := by decide +kernel
theorem sM_29 : shM[29]? = some (1, 0, 22, 29) := by decide +kernel
theorem sM_30 : shM[30]? = some (1, 0, 22, 30) := by decide +kernel
theorem sM_31 : shM[31]? = some (1, 0, 1408, 31) := by decide +kernel
theorem sM_32 : shM[32]? = some (1, 0, 1408, 32) := by decide +kernel
theorem sM_33 : shM[33]? = some (1, 0, 22, 33) := by decide +kernel
theorem sM_34 : shM[34]? = some (1, 0, 22, 34) := by decide +kernel
theorem sM_35 : shM[35]? = some (1, 0, 352, 35) := by decide +kernel
theorem sM_36 : shM[36]? = some (1, 0, 352, 36) := by decide +kernel
theorem sM_37 : shM[37]? = some (1, 0, 220, 37) := by decide +kernel
theorem sM_38 : shM[38]? = some (1, 0, 22, 38) := by decide +kernel
theorem sM_39 : shM[39]? = some (1, 0, 3520, 39) := by decide +kernel
theorem sM_40 : shM[40]? = some (2, 0, 500, 40) := by decide +kernel
theorem sM_41 : shM[41]? = some (1, 0, 10, 41) := by decide +kernel
theorem sM_42 : shM[42]? = some (1, 0, 64, 42) := by decide +kernel
theorem sM_43 : shM[43]? = some (1, 0, 64, 43) := by decide +kernel
theorem sM_44 : shM[44]? = some (1, 0, 64, 44) := by decide +kernel
theorem sM_45 : shM[45]? = some (1, 0, 16, 45) := by decide +kernel
theorem sM_46 : shM[46]? = some (1, 0, 16, 46) := by decide +kernel
theorem sM_47 : shM[47]? = some (1, 0, 16, 47) := by decide +kernel
theorem sM_48 : shM[48]? = some (1, 0, 41664, 48) := by decide +kernel
theorem sM_49 : shM[49]? = some (1, 0, 11, 49) := by decide +kernel
theorem sM_50 : shM[50]? = some (1, 0, 150, 50) := by decide +kernel
def rfM : dg_R := fun _ _ => none
end
section
/-! the reference: what holds of the bank in use, and of the shifts told -/
def ZBM (S : dg_S) : Prop := ∀ b sm : Int32, S.1 0 13 = .int b → S.1 0 47 = .int sm → (S.2.1 2 b.toNatClampNeg).toInt ≤ 7 ∧ (S.2.1 3 b.toNatClampNeg).toInt ≤ 7 ∧ (S.2.1 4 b.toNatClampNeg).toInt ≤ 63 ∧ (sm.toInt = 1 → 3 ≤ (S.2.1 2 b.toNatClampNeg).toInt ∧ 3 ≤ (S.2.1 3 b.toNatClampNeg).toInt)
def ZSM (S : dg_S) : Prop := ∀ j : Nat, j < 22 → j ≠ 1 → (S.2.1 29 j).toInt ≤ 999
theorem ZBM.keep {S S1 : dg_S} {WF : List (Nat × Nat)} {WA : List Nat} (h : ZBM S) (m : dg_sm shM WF WA S S1) (h1 : (0, 13) ∉ WF) (h2 : (0, 47) ∉ WF) (h3 : 2 ∉ WA) (h4 : 3 ∉ WA) (h5 : 4 ∉ WA) : ZBM S1 := by
  intro b sm hb hsm
  rw [m.1 0 13 _ sM_0 h1] at hb
  rw [m.1 0 47 _ sM_0 h2] at hsm
  rw [(m.2 2 _ sM_2 h3).1, (m.2 3 _ sM_3 h4).1, (m.2 4 _ sM_4 h5).1]
  exact h b sm hb hsm
theorem ZSM.keep {S S1 : dg_S} {WF : List (Nat × Nat)} {WA : List Nat} (h : ZSM S) (m : dg_sm shM WF WA S S1) (h1 : 29 ∉ WA) : ZSM S1 := by
  intro j hj h2
  rw [(m.2 29 _ sM_29 h1).1]
  exact h j hj h2
theorem ZSM.up {S S1 : dg_S} {i x : Int32} (h : ZSM S) (hin : vp_in i 22) (e : S1 = dg_uf S 29 (upd (S.2.1 29) i.toNatClampNeg x)) (hx : i.toInt ≠ 1 → x.toInt ≤ 999) : ZSM S1 := by
  intro j hj h2
  rw [dg_uf_at e]
  have e1 := dk_inT hin
  unfold upd
  split
  · exact hx (by omega)
  · exact h j hj h2
/-- a smaller number by its lowest bit -/
theorem dk_lowbit {x : Int32} (h : x ≠ 0) : (x &&& (x - 1)).toUInt32.toNat < x.toUInt32.toNat := by
  have e1 : (x &&& (x - 1)).toUInt32.toNat = (x.toBitVec &&& (x.toBitVec - 1)).toNat := rfl
  have e2 : x.toUInt32.toNat = x.toBitVec.toNat := rfl
  rw [e1, e2, BitVec.toNat_and]
  have h0 : x.toBitVec ≠ 0 := fun z => h (Int32.toBitVec_inj.mp z)
  have h1 : x.toBitVec.toNat ≠ 0 := fun z => h0 (BitVec.eq_of_toNat_eq (by simpa using z))
  have h2 : (x.toBitVec - 1).toNat = x.toBitVec.toNat - 1 := by
    rw [BitVec.toNat_sub]
    have h4 := x.toBitVec.isLt
    have h5 : (1 : BitVec 32).toNat = 1 := rfl
    rw [h5]
    omega
  have h3 := Nat.and_le_right (n := x.toBitVec.toNat) (m := (x.toBitVec - 1).toNat)
  omega
end
section
/-! the reference: programs (rows of codes), the seed, longs -/
theorem dk_bm64 {z : Int} (h1 : -9223372036854775808 ≤ z) (h2 : z < 9223372036854775808) : z.bmod (2 ^ 64) = z := by
  rw [Int.bmod_def]
  omega
theorem dk_lshr8 {x : Int64} (h : 0 < x.toInt) : 0 ≤ (x >>> ((8 : Int32).toInt64 &&& 63)).toInt ∧ (x >>> ((8 : Int32).toInt64 &&& 63)).toInt < x.toInt := by
  have e1 : ((8 : Int32).toInt64 &&& 63) = (8 : Int64) := by decide +kernel
  have e3 : ((8 : Int64).toBitVec.smod 64).toNat = 8 := by decide +kernel
  have e2 : (x >>> (8 : Int64)).toInt = x.toInt / ((2 ^ 8 : Nat) : Int) := by
    show (x.toBitVec.sshiftRight' ((8 : Int64).toBitVec.smod 64)).toInt = x.toBitVec.toInt / _
    rw [BitVec.toInt_sshiftRight', Int.shiftRight_eq_div_pow, e3]
  rw [e1, e2]
  have e4 : ((2 ^ 8 : Nat) : Int) = 256 := by decide
  rw [e4]
  omega
/-- what is left of a long -/
theorem dk_remB {u q v : Int64} (hu : 0 ≤ u.toInt) (hq : 0 < q.toInt) (e : v = u - u / q * q) : 0 ≤ v.toInt ∧ v.toInt < q.toInt := by
  have hm : q ≠ -1 := fun z => by
    rw [z] at hq
    exact absurd hq (by decide +kernel)
  have h1 : (u / q).toInt = u.toInt / q.toInt := by rw [Int64.toInt_div_of_ne_right u q hm, Int.tdiv_eq_ediv_of_nonneg hu]
  have hb := Int64.toInt_lt u
  have h2 : u.toInt / q.toInt * q.toInt ≤ u.toInt := Int.ediv_mul_le _ (by omega)
  have h3 : 0 ≤ u.toInt / q.toInt * q.toInt := Int.mul_nonneg (Int.ediv_nonneg hu (by omega)) (by omega)
  have h4 : (u / q * q).toInt = u.toInt / q.toInt * q.toInt := by rw [Int64.toInt_mul, h1, dk_bm64 (by omega) (by omega)]
  have h5 : v.toInt = u.toInt - u.toInt / q.toInt * q.toInt := by rw [e, Int64.toInt_sub, h4, dk_bm64 (by omega) (by omega)]
  have h6 : u.toInt - u.toInt / q.toInt * q.toInt = u.toInt % q.toInt := by
    have := Int.emod_def u.toInt q.toInt
    rw [this, Int.mul_comm]
  rw [h5, h6]
  exact ⟨Int.emod_nonneg _ (by omega), Int.emod_lt_of_pos _ hq⟩
theorem dk_drawA {x y z w : Int64} (hx : 0 ≤ x.toInt ∧ x.toInt < 2147483648) (e1 : y = 1103515245 * x) (e2 : z = y + 12345) (e3 : w = z - z / 2147483648 * 2147483648) : 0 ≤ w.toInt ∧ w.toInt < 2147483648 := by
  have c1 : (1103515245 : Int64).toInt = 1103515245 := by decide +kernel
  have c2 : (12345 : Int64).toInt = 12345 := by decide +kernel
  have c3 : (2147483648 : Int64).toInt = 2147483648 := by decide +kernel
  have h1 : y.toInt = 1103515245 * x.toInt := by rw [e1, Int64.toInt_mul, c1, dk_bm64 (by omega) (by omega)]
  have h2 : z.toInt = y.toInt + 12345 := by rw [e2, Int64.toInt_add, c2, dk_bm64 (by omega) (by omega)]
  have h3 := dk_remB (u := z) (by omega) (by rw [c3]; omega) e3
  rw [c3] at h3
  exact h3
theorem dk_div64 {x y : Int64} (hx : 0 ≤ x.toInt) (e : y = x / 64) : 0 ≤ y.toInt := by
  have c1 : (64 : Int64).toInt = 64 := by decide +kernel
  rw [e, Int64.toInt_div_of_ne_right x 64 (by decide +kernel), Int.tdiv_eq_ediv_of_nonneg hx, c1]
  omega
def ZDM (S : dg_S) : Prop := ∀ x : Int64, S.1 0 62 = .long x → 0 ≤ x.toInt ∧ x.toInt < 2147483648
theorem ZDM.keep {S S1 : dg_S} {WF : List (Nat × Nat)} {WA : List Nat} (h : ZDM S) (m : dg_sm shM WF WA S S1) (h1 : (0, 62) ∉ WF) : ZDM S1 := by
  intro x hx
  rw [m.1 0 62 _ sM_0 h1] at hx
  exact h x hx
theorem ZDM.put {S S1 : dg_S} {v : Int64} (e : S1 = dg_uF S 0 62 (.long v)) (h : 0 ≤ v.toInt ∧ v.toInt < 2147483648) : ZDM S1 := by
  intro x hx
  rw [dg_uF_at e] at hx
  cases hx
  exact h
/-- bytes side by side -/
theorem dk_orN {x y : Int32} (hx : 0 ≤ x.toInt) (hy : 0 ≤ y.toInt) : 0 ≤ (x ||| y).toInt := by
  obtain ⟨m, hm, rfl⟩ := nI_of (x := x) (dk_nneg hx)
  obtain ⟨k, hk, rfl⟩ := nI_of (x := y) (dk_nneg hy)
  have h := Nat.or_lt_two_pow hm hk
  have e : nI m ||| nI k = nI (m ||| k) := by
    apply Int32.toBitVec_inj.mp
    apply BitVec.eq_of_toNat_eq
    have e1 : ∀ j : Nat, j < 2 ^ 31 → (nI j).toBitVec.toNat = j := fun j hj => by
      have h1 := nI_toInt hj
      have h2 : (nI j).toBitVec.toInt = (j : Int) := h1
      rw [BitVec.toInt_eq_toNat_cond] at h2
      have h3 := (nI j).toBitVec.isLt
      split at h2 <;> omega
    show ((nI m).toBitVec ||| (nI k).toBitVec).toNat = _
    rw [BitVec.toNat_or, e1 _ hm, e1 _ hk, e1 _ h]
  rw [e, nI_toInt h]
  omega
/-! codes: what each wants of the values that wait, and how many it leaves -/
def dk_st (t n n' : Int) : Prop := 0 ≤ n ∧ n ≤ 400 ∧ ((((0 ≤ t ∧ t ≤ 6) ∨ t = 30) ∧ n' = n + 1) ∨ (t = 43 ∧ 1 ≤ n ∧ n' = n) ∨ (t = 44 ∧ 3 ≤ n ∧ n' = n - 2) ∨ (31 ≤ t ∧ t ≤ 42 ∧ 2 ≤ n ∧ n' = n - 1))
def dk_ok (f : Nat → Int32) : Nat → Nat → Int → Int → Prop
  | 0, _, n, m => n = m
  | k + 1, s, n, m => ∃ n' : Int, dk_st (f s).toInt n n' ∧ dk_ok f k (s + 1) n' m
theorem dk_ok.next {f : Nat → Int32} {E n : Int} {i x : Int32} (h : ∃ m, dk_ok f (E - i.toInt).toNat i.toNatClampNeg n m) (hlt : i.toInt < E) (h0 : 0 ≤ i.toInt) (hx : x = f i.toNatClampNeg) : ∃ n' : Int, dk_st x.toInt n n' ∧ ∃ m, dk_ok f (E - (i.toInt + 1)).toNat (i.toNatClampNeg + 1) n' m := by
  obtain ⟨m, h⟩ := h
  have e : (E - i.toInt).toNat = (E - (i.toInt + 1)).toNat + 1 := by omega
  rw [e] at h
  obtain ⟨n', h1, h2⟩ := h
  subst hx
  exact ⟨n', h1, m, h2⟩
theorem dk_ok.go {f : Nat → Int32} {E n' : Int} {i i' z : Int32} (h : ∃ m, dk_ok f (E - (i.toInt + 1)).toNat (i.toNatClampNeg + 1) n' m) (hi : i'.toInt = i.toInt + 1) (h0 : 0 ≤ i.toInt) (hz : z.toInt = n') : ∃ m, dk_ok f (E - i'.toInt).toNat i'.toNatClampNeg z.toInt m := by
  have e : i'.toNatClampNeg = i.toNatClampNeg + 1 := by rw [dk_clN, dk_clN]; omega
  rw [hi, e, hz]
  exact h
theorem dk_ok.init {f : Nat → Int32} {b fr bh c z : Int32} (h : ∃ m, dk_ok f (bh.toInt - fr.toInt).toNat (1600 * b.toNatClampNeg + fr.toInt.toNat) 0 m) (hb : 0 ≤ b.toInt) (hfr : 0 ≤ fr.toInt) (hc : c.toInt = 1600 * b.toInt + fr.toInt) (hz : z.toInt = 0) : ∃ m, dk_ok f (1600 * b.toInt + bh.toInt - c.toInt).toNat c.toNatClampNeg z.toInt m := by
  have e1 : c.toNatClampNeg = 1600 * b.toNatClampNeg + fr.toInt.toNat := by rw [dk_clN, dk_clN]; omega
  have e2 : (1600 * b.toInt + bh.toInt - c.toInt).toNat = (bh.toInt - fr.toInt).toNat := by omega
  rw [e1, e2, hz]
  exact h
theorem dk_ok.snoc {f : Nat → Int32} {m' : Int} : ∀ {k s : Nat} {n m : Int}, dk_ok f k s n m → dk_st (f (s + k)).toInt m m' → dk_ok f (k + 1) s n m'
  | 0, s, n, m, h, h2 => by
    have e : n = m := h
    subst e
    exact ⟨m', h2, rfl⟩
  | k + 1, s, n, m, ⟨n', h1, h3⟩, h2 => ⟨n', h1, dk_ok.snoc h3 (by rw [show s + 1 + k = s + (k + 1) by omega]; exact h2)⟩
theorem dk_ok.congr {f g : Nat → Int32} {m : Int} : ∀ {k s : Nat} {n : Int}, (∀ j, s ≤ j → j < s + k → g j = f j) → dk_ok f k s n m → dk_ok g k s n m
  | 0, _, _, _, h => h
  | k + 1, s, n, he, ⟨n', h1, h3⟩ => ⟨n', by rw [he s (Nat.le_refl s) (by omega)]; exact h1, dk_ok.congr (fun j h4 h5 => he j (by omega) (by omega)) h3⟩
/-- rule w of bank b, where it is told, is a program -/
def dk_pr (S : dg_S) (b w : Nat) : Prop := (S.2.1 16 (3 * b + w)).toInt ≠ -1 → 0 ≤ (S.2.1 16 (3 * b + w)).toInt ∧ (S.2.1 16 (3 * b + w)).toInt ≤ (S.2.1 17 (3 * b + w)).toInt ∧ (S.2.1 17 (3 * b + w)).toInt ≤ 1600 ∧ ∃ m, dk_ok (S.2.1 18) ((S.2.1 17 (3 * b + w)).toInt - (S.2.1 16 (3 * b + w)).toInt).toNat (1600 * b + (S.2.1 16 (3 * b + w)).toInt.toNat) 0 m
def ZWM (S : dg_S) : Prop := ∀ b : Int32, S.1 0 13 = .int b → ∀ w : Nat, w < 3 → dk_pr S b.toNatClampNeg w
theorem ZWM.keep {S S1 : dg_S} {WF : List (Nat × Nat)} {WA : List Nat} (h : ZWM S) (m : dg_sm shM WF WA S S1) (h1 : (0, 13) ∉ WF) (h2 : 16 ∉ WA) (h3 : 17 ∉ WA) (h4 : 18 ∉ WA) : ZWM S1 := by
  intro b hb w hw
  rw [m.1 0 13 _ sM_0 h1] at hb
  unfold dk_pr
  rw [(m.2 16 _ sM_16 h2).1, (m.2 17 _ sM_17 h3).1, (m.2 18 _ sM_18 h4).1]
  exact h b hb w hw
theorem ZWM.at {S : dg_S} {b : Int32} {k : Nat} (h : ZWM S) (hb : S.1 0 13 = .int b) (hk : k < 3) {fr bh : Int32} (hf : S.2.1 16 (3 * b.toNatClampNeg + k) = fr) (hh : S.2.1 17 (3 * b.toNatClampNeg + k) = bh) (ht : (S.2.1 16 (3 * b.toNatClampNeg + k)).toInt ≠ -1) : 0 ≤ fr.toInt ∧ fr.toInt ≤ bh.toInt ∧ bh.toInt ≤ 1600 ∧ ∃ m, dk_ok (S.2.1 18) (bh.toInt - fr.toInt).toNat (1600 * b.toNatClampNeg + fr.toInt.toNat) 0 m := by
  subst hf
  subst hh
  exact h b hb k hk ht
def ZT0M (S : dg_S) : Prop := ∀ b : Int32, S.1 0 13 = .int b → (S.2.1 16 (3 * b.toNatClampNeg + 0)).toInt ≠ -1
def ZT1M (S : dg_S) : Prop := ∀ b : Int32, S.1 0 13 = .int b → (S.2.1 16 (3 * b.toNatClampNeg + 1)).toInt ≠ -1
def ZT2M (S : dg_S) : Prop := ∀ b : Int32, S.1 0 13 = .int b → (S.2.1 16 (3 * b.toNatClampNeg + 2)).toInt ≠ -1
theorem ZT0M.keep {S S1 : dg_S} {WF : List (Nat × Nat)} {WA : List Nat} (h : ZT0M S) (m : dg_sm shM WF WA S S1) (h1 : (0, 13) ∉ WF) (h2 : 16 ∉ WA) : ZT0M S1 := by
  intro b hb
  rw [m.1 0 13 _ sM_0 h1] at hb
  rw [(m.2 16 _ sM_16 h2).1]
  exact h b hb
theorem ZT1M.keep {S S1 : dg_S} {WF : List (Nat × Nat)} {WA : List Nat} (h : ZT1M S) (m : dg_sm shM WF WA S S1) (h1 : (0, 13) ∉ WF) (h2 : 16 ∉ WA) : ZT1M S1 := by
  intro b hb
  rw [m.1 0 13 _ sM_0 h1] at hb
  rw [(m.2 16 _ sM_16 h2).1]
  exact h b hb
theorem ZT2M.keep {S S1 : dg_S} {WF : List (Nat × Nat)} {WA : List Nat} (h : ZT2M S) (m : dg_sm shM WF WA S S1) (h1 : (0, 13) ∉ WF) (h2 : 16 ∉ WA) : ZT2M S1 := by
  intro b hb
  rw [m.1 0 13 _ sM_0 h1] at hb
  rw [(m.2 16 _ sM_16 h2).1]
  exact h b hb
/-! the rows of four that were felt -/
def dk_felt (f : Nat → Int32) (k : Int) : Prop := ∀ j : Nat, 4 * (j : Int) < k → (f (4 * j + 1)).toInt ≤ 6 ∧ (f (4 * j + 2)).toInt ≤ 6
theorem dk_felt.none {f : Nat → Int32} {k : Int} (h : k ≤ 0) : dk_felt f k := fun j hj => by omega
theorem dk_felt.more {f : Nat → Int32} {k : Int} (h : dk_felt f k) {i1 i2 x1 x2 : Int32} (h0 : 0 ≤ k) (hm : k % 4 = 0) (e1 : i1.toInt = k + 1) (e2 : i2.toInt = k + 2) (h1 : x1 = f i1.toNatClampNeg) (h2 : x2 = f i2.toNatClampNeg) (g1 : x1.toInt ≤ 6) (g2 : x2.toInt ≤ 6) {k' : Int} (hk : k' = k + 4) : dk_felt f k' := by
  intro j hj
  by_cases q : 4 * (j : Int) < k
  · exact h j q
  · have a1 : 4 * j + 1 = i1.toNatClampNeg := by rw [dk_clN]; omega
    have a2 : 4 * j + 2 = i2.toNatClampNeg := by rw [dk_clN]; omega
    rw [a1, a2, ← h1, ← h2]
    exact ⟨g1, g2⟩
theorem dk_felt.at1 {f : Nat → Int32} {k : Int} (h : dk_felt f k) {i x : Int32} (hx : x = f i.toNatClampNeg) {j : Int} (h0 : 0 ≤ j) (hj : i.toInt = 4 * j + 1) (hk : 4 * j < k) : x.toInt ≤ 6 := by
  have e : i.toNatClampNeg = 4 * j.toNat + 1 := by rw [dk_clN]; omega
  rw [hx, e]
  exact (h j.toNat (by omega)).1
theorem dk_felt.at2 {f : Nat → Int32} {k : Int} (h : dk_felt f k) {i x : Int32} (hx : x = f i.toNatClampNeg) {j : Int} (h0 : 0 ≤ j) (hj : i.toInt = 4 * j + 2) (hk : 4 * j < k) : x.toInt ≤ 6 := by
  have e : i.toNatClampNeg = 4 * j.toNat + 2 := by rw [dk_clN]; omega
  rw [hx, e]
  exact (h j.toNat (by omega)).2
end
section
/-! the reference's parser: what waits, of a state -/
/-- rule w of bank b, where it is told, is a program that ends ahead of c -/
def dk_pc (S : dg_S) (b w : Nat) (c : Int) : Prop := (S.2.1 16 (3 * b + w)).toInt ≠ -1 → 0 ≤ (S.2.1 16 (3 * b + w)).toInt ∧ (S.2.1 16 (3 * b + w)).toInt ≤ (S.2.1 17 (3 * b + w)).toInt ∧ (S.2.1 17 (3 * b + w)).toInt ≤ c ∧ ∃ m, dk_ok (S.2.1 18) ((S.2.1 17 (3 * b + w)).toInt - (S.2.1 16 (3 * b + w)).toInt).toNat (1600 * b + (S.2.1 16 (3 * b + w)).toInt.toNat) 0 m
theorem dk_pc.pr {S : dg_S} {b w : Nat} {c : Int} (h : dk_pc S b w c) (hc : c ≤ 1600) : dk_pr S b w := fun t => ⟨(h t).1, (h t).2.1, Int.le_trans (h t).2.2.1 hc, (h t).2.2.2⟩
theorem dk_pc.mono {S : dg_S} {b w : Nat} {c c' : Int} (h : dk_pc S b w c) (hc : c ≤ c') : dk_pc S b w c' := fun t => ⟨(h t).1, (h t).2.1, Int.le_trans (h t).2.2.1 hc, (h t).2.2.2⟩
theorem dk_pc.move {S S' : dg_S} {b w : Nat} {c : Int} (h : dk_pc S b w c) (e16 : S'.2.1 16 (3 * b + w) = S.2.1 16 (3 * b + w)) (e17 : S'.2.1 17 (3 * b + w) = S.2.1 17 (3 * b + w)) (e18 : ∀ j : Nat, 1600 * b ≤ j → (j : Int) < 1600 * (b : Int) + c → S'.2.1 18 j = S.2.1 18 j) : dk_pc S' b w c := by
  unfold dk_pc
  rw [e16, e17]
  intro t
  obtain ⟨h1, h2, h3, m, h4⟩ := h t
  exact ⟨h1, h2, h3, m, h4.congr (fun j j1 j2 => e18 j (by omega) (by omega))⟩
/-- the rule that is being read: its codes so far leave h values; the others are programs -/
def dk_qs (S : dg_S) (i w : Int32) (cd h : Int) : Prop := 0 ≤ w.toInt ∧ w.toInt ≤ 2 ∧ 0 ≤ (S.2.1 16 (3 * i.toNatClampNeg + w.toNatClampNeg)).toInt ∧ (S.2.1 16 (3 * i.toNatClampNeg + w.toNatClampNeg)).toInt ≤ cd ∧ dk_ok (S.2.1 18) (cd - (S.2.1 16 (3 * i.toNatClampNeg + w.toNatClampNeg)).toInt).toNat (1600 * i.toNatClampNeg + (S.2.1 16 (3 * i.toNatClampNeg + w.toNatClampNeg)).toInt.toNat) 0 h ∧ ∀ w' : Nat, w' < 3 → w' ≠ w.toNatClampNeg → dk_pc S i.toNatClampNeg w' (S.2.1 16 (3 * i.toNatClampNeg + w.toNatClampNeg)).toInt
def QSM (S : dg_S) (h : Int) : Prop := ∀ i w cd : Int32, S.1 0 35 = .int i → S.1 0 36 = .int w → S.1 0 34 = .int cd → dk_qs S i w cd.toInt h
theorem QSM.keep {S S1 : dg_S} {WF : List (Nat × Nat)} {WA : List Nat} {x : Int} (h : QSM S x) (m : dg_sm shM WF WA S S1) (h1 : (0, 35) ∉ WF) (h2 : (0, 36) ∉ WF) (h3 : (0, 34) ∉ WF) (h4 : 16 ∉ WA) (h5 : 17 ∉ WA) (h6 : 18 ∉ WA) : QSM S1 x := by
  intro i w cd q1 q2 q3
  rw [m.1 0 35 _ sM_0 h1] at q1
  rw [m.1 0 36 _ sM_0 h2] at q2
  rw [m.1 0 34 _ sM_0 h3] at q3
  have := h i w cd q1 q2 q3
  unfold dk_qs dk_pc at this ⊢
  rw [(m.2 16 _ sM_16 h4).1, (m.2 17 _ sM_17 h5).1, (m.2 18 _ sM_18 h6).1]
  exact this
def ADM (S S' : dg_S) (t : Int32) : Prop := ∀ h h' : Int, QSM S h → dk_st t.toInt h h' → QSM S' h'
theorem QSM.add {S S1 S2 S3 : dg_S} {i cd cd' x t y : Int32} {z : Nat} (fi : S.1 0 35 = .int i) (fc : S.1 0 34 = .int cd) (hi : 0 ≤ i.toInt) (hc : 0 ≤ cd.toInt) (e1 : S1 = dg_uf S 18 (upd (S.2.1 18) x.toNatClampNeg t)) (hx : x.toInt = 1600 * i.toInt + cd.toInt) (e2 : S2 = dg_uf S1 19 (upd (S1.2.1 19) z y)) (e3 : S3 = dg_uF S2 0 34 (.int cd')) (hcd : cd'.toInt = cd.toInt + 1) : ADM S S3 t := by
  intro h h' q hst i' w cd'' q1 q2 q3
  have g35 : S3.1 0 35 = S.1 0 35 := by rw [dg_uF_ne e3 (fun z => absurd z.2 (by decide)), dg_uf_F e2, dg_uf_F e1]
  have g36 : S3.1 0 36 = S.1 0 36 := by rw [dg_uF_ne e3 (fun z => absurd z.2 (by decide)), dg_uf_F e2, dg_uf_F e1]
  have g16 : S3.2.1 16 = S.2.1 16 := by rw [dg_uF_f e3, dg_uf_ne e2 (by decide), dg_uf_ne e1 (by decide)]
  have g17 : S3.2.1 17 = S.2.1 17 := by rw [dg_uF_f e3, dg_uf_ne e2 (by decide), dg_uf_ne e1 (by decide)]
  have g18 : S3.2.1 18 = upd (S.2.1 18) x.toNatClampNeg t := by rw [dg_uF_f e3, dg_uf_ne e2 (by decide), dg_uf_at e1]
  rw [g35, fi] at q1
  rw [g36] at q2
  rw [dg_uF_at e3] at q3
  cases q1
  cases q3
  obtain ⟨a1, a2, a3, a4, a5, a6⟩ := q i w cd fi q2 fc
  unfold dk_qs
  rw [g16, g18, hcd]
  generalize (S.2.1 16 (3 * i.toNatClampNeg + w.toNatClampNeg)).toInt = f0 at a3 a4 a5 a6 ⊢
  have ex : x.toNatClampNeg = 1600 * i.toNatClampNeg + f0.toNat + (cd.toInt - f0).toNat := by rw [dk_clN, dk_clN]; omega
  refine ⟨a1, a2, a3, by omega, ?_, fun w' w1 w2 => (a6 w' w1 w2).move (congrFun g16 _) (congrFun g17 _) (fun j j1 j2 => ?_)⟩
  · rw [show (cd.toInt + 1 - f0).toNat = (cd.toInt - f0).toNat + 1 by omega]
    refine dk_ok.snoc (a5.congr (fun j j1 j2 => ?_)) ?_
    · unfold upd
      rw [if_neg (by omega)]
    · unfold upd
      rw [if_pos ex.symm]
      exact hst
  · rw [g18]
    unfold upd
    rw [if_neg (by rw [ex]; omega)]
/-! the bank in use stands while the other one is written -/
def ZKM (S : dg_S) : Prop := ∀ b i : Int32, S.1 0 13 = .int b → S.1 0 35 = .int i → i.toInt = 1 - b.toInt
theorem ZKM.keep {S S1 : dg_S} {WF : List (Nat × Nat)} {WA : List Nat} (h : ZKM S) (m : dg_sm shM WF WA S S1) (h1 : (0, 13) ∉ WF) (h2 : (0, 35) ∉ WF) : ZKM S1 := by
  intro b i q1 q2
  rw [m.1 0 13 _ sM_0 h1] at q1
  rw [m.1 0 35 _ sM_0 h2] at q2
  exact h b i q1 q2
theorem ZWM.up18 {S S1 : dg_S} {b x v : Int32} (h : ZWM S) (hb : S.1 0 13 = .int b) (h0 : 0 ≤ b.toInt ∧ b.toInt ≤ 1) (e : S1 = dg_uf S 18 (upd (S.2.1 18) x.toNatClampNeg v)) (hx : 1600 * (1 - b.toInt) ≤ x.toInt ∧ x.toInt < 1600 * (1 - b.toInt) + 1600) : ZWM S1 := by
  intro b' hb' w hw
  rw [dg_uf_F e, hb] at hb'
  cases hb'
  have g16 : S1.2.1 16 = S.2.1 16 := dg_uf_ne e (by decide)
  have g17 : S1.2.1 17 = S.2.1 17 := dg_uf_ne e (by decide)
  unfold dk_pr
  rw [g16, g17]
  intro t
  obtain ⟨h1, h2, h3, m, h4⟩ := h b hb w hw t
  refine ⟨h1, h2, h3, m, h4.congr (fun j j1 j2 => ?_)⟩
  rw [dg_uf_at e]
  unfold upd
  rw [if_neg (by
    have e2 := dk_clN x
    have e3 := dk_clN b
    omega)]
theorem ZWM.up1 {S S1 : dg_S} {b x v : Int32} {r : Nat} (h : ZWM S) (hr : r = 16 ∨ r = 17) (hb : S.1 0 13 = .int b) (h0 : 0 ≤ b.toInt ∧ b.toInt ≤ 1) (e : S1 = dg_uf S r (upd (S.2.1 r) x.toNatClampNeg v)) (hx : 3 * (1 - b.toInt) ≤ x.toInt ∧ x.toInt < 3 * (1 - b.toInt) + 3) : ZWM S1 := by
  intro b' hb' w hw
  rw [dg_uf_F e, hb] at hb'
  cases hb'
  have hne : ¬ 3 * b.toNatClampNeg + w = x.toNatClampNeg := by
    have e2 := dk_clN x
    have e3 := dk_clN b
    omega
  have g16 : S1.2.1 16 (3 * b.toNatClampNeg + w) = S.2.1 16 (3 * b.toNatClampNeg + w) := by
    rcases hr with q | q
    · subst q
      rw [dg_uf_at e, dg_upd_ne hne]
    · subst q
      rw [dg_uf_ne e (by decide)]
  have g17 : S1.2.1 17 (3 * b.toNatClampNeg + w) = S.2.1 17 (3 * b.toNatClampNeg + w) := by
    rcases hr with q | q
    · subst q
      rw [dg_uf_ne e (by decide)]
    · subst q
      rw [dg_uf_at e, dg_upd_ne hne]
  have g18 : S1.2.1 18 = S.2.1 18 := dg_uf_ne e (by rcases hr with q | q <;> omega)
  unfold dk_pr
  rw [g16, g17, g18]
  exact h b hb w hw
theorem ZBM.up {S S1 : dg_S} {b x v : Int32} {r : Nat} (h : ZBM S) (hr : r = 2 ∨ r = 3 ∨ r = 4) (hb : S.1 0 13 = .int b) (h0 : 0 ≤ b.toInt ∧ b.toInt ≤ 1) (e : S1 = dg_uf S r (upd (S.2.1 r) x.toNatClampNeg v)) (hx : x.toInt = 1 - b.toInt) : ZBM S1 := by
  intro b' sm hb' hsm
  rw [dg_uf_F e, hb] at hb'
  rw [dg_uf_F e] at hsm
  cases hb'
  have hne : ¬ b.toNatClampNeg = x.toNatClampNeg := by
    have e2 := dk_clN x
    have e3 := dk_clN b
    omega
  have key : ∀ q : Nat, S1.2.1 q b.toNatClampNeg = S.2.1 q b.toNatClampNeg := by
    intro q
    by_cases z : q = r
    · subst z
      rw [dg_uf_at e, dg_upd_ne hne]
    · rw [dg_uf_ne e z]
  rw [key 2, key 3, key 4]
  exact h b sm hb hsm
/-! what waits -/
def PSM (S : dg_S) (op : Int) : Prop := ∀ dp on om : Int32, S.1 0 42 = .int dp → S.1 0 43 = .int on → S.1 0 45 = .int om → dk_fs (S.2.1 22) (S.2.1 23) (S.2.1 24) (S.2.1 25) (S.2.1 26) (S.2.1 27) dp.toNatClampNeg om.toNatClampNeg on.toInt ∧ (op = 1 → (S.2.1 24 (dp.toNatClampNeg - 1)).toInt = 0) ∧ 0 ≤ dp.toInt ∧ 0 ≤ om.toInt ∧ QSM S (om.toInt - (dk_cnt (S.2.1 27) 43 om.toNatClampNeg : Int) + dk_ex (S.2.1 22) (S.2.1 25) dp.toNatClampNeg + op)
theorem PSM.keep {S S1 : dg_S} {WF : List (Nat × Nat)} {WA : List Nat} {op : Int} (h : PSM S op) (m : dg_sm shM WF WA S S1) (h1 : (0, 35) ∉ WF) (h2 : (0, 36) ∉ WF) (h3 : (0, 34) ∉ WF) (h7 : (0, 42) ∉ WF) (h8 : (0, 43) ∉ WF) (h9 : (0, 45) ∉ WF) (h4 : 16 ∉ WA) (h5 : 17 ∉ WA) (h6 : 18 ∉ WA) (k2 : 22 ∉ WA) (k3 : 23 ∉ WA) (k4 : 24 ∉ WA) (k5 : 25 ∉ WA) (k6 : 26 ∉ WA) (k7 : 27 ∉ WA) : PSM S1 op := by
  intro dp on om q1 q2 q3
  rw [m.1 0 42 _ sM_0 h7] at q1
  rw [m.1 0 43 _ sM_0 h8] at q2
  rw [m.1 0 45 _ sM_0 h9] at q3
  rw [(m.2 22 _ sM_22 k2).1, (m.2 23 _ sM_23 k3).1, (m.2 24 _ sM_24 k4).1, (m.2 25 _ sM_25 k5).1, (m.2 26 _ sM_26 k6).1, (m.2 27 _ sM_27 k7).1]
  obtain ⟨a1, a2, a3, a4, a5⟩ := h dp on om q1 q2 q3
  exact ⟨a1, a2, a3, a4, a5.keep m h1 h2 h3 h4 h5 h6⟩
def P0M (S : dg_S) : Prop := PSM S 0
def P1M (S : dg_S) : Prop := PSM S 1
def PBM (S : dg_S) : Prop := PSM S 0 ∧ ∀ dp : Int32, S.1 0 42 = .int dp → (S.2.1 24 (dp.toNatClampNeg - 1)).toInt = 0
theorem P0M.keep {S S1 : dg_S} {WF : List (Nat × Nat)} {WA : List Nat} (h : P0M S) (m : dg_sm shM WF WA S S1) (h1 : (0, 35) ∉ WF) (h2 : (0, 36) ∉ WF) (h3 : (0, 34) ∉ WF) (h7 : (0, 42) ∉ WF) (h8 : (0, 43) ∉ WF) (h9 : (0, 45) ∉ WF) (h4 : 16 ∉ WA) (h5 : 17 ∉ WA) (h6 : 18 ∉ WA) (k2 : 22 ∉ WA) (k3 : 23 ∉ WA) (k4 : 24 ∉ WA) (k5 : 25 ∉ WA) (k6 : 26 ∉ WA) (k7 : 27 ∉ WA) : P0M S1 := PSM.keep h m h1 h2 h3 h7 h8 h9 h4 h5 h6 k2 k3 k4 k5 k6 k7
theorem P1M.keep {S S1 : dg_S} {WF : List (Nat × Nat)} {WA : List Nat} (h : P1M S) (m : dg_sm shM WF WA S S1) (h1 : (0, 35) ∉ WF) (h2 : (0, 36) ∉ WF) (h3 : (0, 34) ∉ WF) (h7 : (0, 42) ∉ WF) (h8 : (0, 43) ∉ WF) (h9 : (0, 45) ∉ WF) (h4 : 16 ∉ WA) (h5 : 17 ∉ WA) (h6 : 18 ∉ WA) (k2 : 22 ∉ WA) (k3 : 23 ∉ WA) (k4 : 24 ∉ WA) (k5 : 25 ∉ WA) (k6 : 26 ∉ WA) (k7 : 27 ∉ WA) : P1M S1 := PSM.keep h m h1 h2 h3 h7 h8 h9 h4 h5 h6 k2 k3 k4 k5 k6 k7
theorem PBM.keep {S S1 : dg_S} {WF : List (Nat × Nat)} {WA : List Nat} (h : PBM S) (m : dg_sm shM WF WA S S1) (h1 : (0, 35) ∉ WF) (h2 : (0, 36) ∉ WF) (h3 : (0, 34) ∉ WF) (h7 : (0, 42) ∉ WF) (h8 : (0, 43) ∉ WF) (h9 : (0, 45) ∉ WF) (h4 : 16 ∉ WA) (h5 : 17 ∉ WA) (h6 : 18 ∉ WA) (k2 : 22 ∉ WA) (k3 : 23 ∉ WA) (k4 : 24 ∉ WA) (k5 : 25 ∉ WA) (k6 : 26 ∉ WA) (k7 : 27 ∉ WA) : PBM S1 := by
  refine ⟨PSM.keep h.1 m h1 h2 h3 h7 h8 h9 h4 h5 h6 k2 k3 k4 k5 k6 k7, fun dp q => ?_⟩
  rw [m.1 0 42 _ sM_0 h7] at q
  rw [(m.2 24 _ sM_24 k4).1]
  exact h.2 dp q
/-- numbers that follow -/
theorem PSM.dims {S : dg_S} {op : Int} (h : PSM S op) {dp on om : Int32} (f1 : S.1 0 42 = .int dp) (f2 : S.1 0 43 = .int on) (f3 : S.1 0 45 = .int om) : 1 ≤ dp.toInt ∧ dp.toInt ≤ 8 ∧ 0 ≤ om.toInt ∧ om.toInt ≤ 47 ∧ dp.toInt - 1 ≤ on.toInt ∧ on.toInt ≤ 7 := by
  obtain ⟨a1, a2, a3, a4, a5⟩ := h dp on om f1 f2 f3
  have b := a1.bound
  obtain ⟨⟨c1, c2, c3⟩, -⟩ := a1
  have e1 := dk_clN dp
  have e2 := dk_clN om
  omega
/-- the height is small, and not below none -/
theorem PSM.high {S : dg_S} {op : Int} (h : PSM S op) (h0 : 0 ≤ op ∧ op ≤ 1) {dp on om : Int32} (f1 : S.1 0 42 = .int dp) (f2 : S.1 0 43 = .int on) (f3 : S.1 0 45 = .int om) : 0 ≤ om.toInt - (dk_cnt (S.2.1 27) 43 om.toNatClampNeg : Int) + dk_ex (S.2.1 22) (S.2.1 25) dp.toNatClampNeg + op ∧ om.toInt - (dk_cnt (S.2.1 27) 43 om.toNatClampNeg : Int) + dk_ex (S.2.1 22) (S.2.1 25) dp.toNatClampNeg + op ≤ 400 := by
  obtain ⟨a1, a2, a3, a4, a5⟩ := h dp on om f1 f2 f3
  have b := a1.bound
  have x := dk_ex_b (S.2.1 22) (S.2.1 25) dp.toNatClampNeg
  have y := dk_cnt_le (S.2.1 27) 43 om.toNatClampNeg
  have e2 := dk_clN om
  omega
/-- the top frame's last operator is below a rank, or there is none -/
def TOPM (S : dg_S) (l : Int32) : Prop := ∀ dp om : Int32, S.1 0 42 = .int dp → S.1 0 45 = .int om → om.toNatClampNeg = (S.2.1 26 (dp.toNatClampNeg - 1)).toInt.toNat ∨ dk_rk (S.2.1 27 (om.toNatClampNeg - 1)).toInt < l.toInt
def HBM (S S' : dg_S) (t : Int32) : Prop := ∀ om : Int32, S.1 0 45 = .int om → S'.2.1 27 = upd (S.2.1 27) om.toNatClampNeg t ∧ ∃ om' : Int32, S'.1 0 45 = .int om' ∧ om'.toInt = om.toInt + 1
def PUM (S S' : dg_S) (k : Int32) : Prop := ∀ dp om : Int32, S.1 0 42 = .int dp → S.1 0 45 = .int om → S'.2.1 22 = upd (S.2.1 22) dp.toNatClampNeg k ∧ S'.2.1 23 = upd (S.2.1 23) dp.toNatClampNeg 0 ∧ S'.2.1 24 = upd (S.2.1 24) dp.toNatClampNeg 1 ∧ S'.2.1 26 = upd (S.2.1 26) dp.toNatClampNeg om ∧ ∃ dp' : Int32, S'.1 0 42 = .int dp' ∧ dp'.toInt = dp.toInt + 1
def FRM (S S' : dg_S) (k : Int32) : Prop := PUM S S' k ∧ ∀ on : Int32, S.1 0 43 = .int on → on.toInt ≠ 7 ∧ ∃ on' : Int32, S'.1 0 43 = .int on' ∧ on'.toInt = on.toInt + 1
section DKPS
variable {S S' : dg_S} {dp on om : Int32}
theorem PSM.push {op : Int} {t on' om' : Int32} (h : PSM S op) (f1 : S.1 0 42 = .int dp) (f2 : S.1 0 43 = .int on) (f3 : S.1 0 45 = .int om) (g1 : S'.1 0 42 = .int dp) (g2 : S'.1 0 43 = .int on') (g3 : S'.1 0 45 = .int om') (hq : ∀ x, QSM S x → QSM S' x) (r22 : S'.2.1 22 = S.2.1 22) (r25 : S'.2.1 25 = S.2.1 25) (r26 : S'.2.1 26 = S.2.1 26) (r27 : S'.2.1 27 = upd (S.2.1 27) om.toNatClampNeg t)
    (hph : ∀ j, j + 1 < dp.toNatClampNeg → S'.2.1 23 j = S.2.1 23 j) (hbg : ∀ j, j + 1 < dp.toNatClampNeg → S'.2.1 24 j = S.2.1 24 j) (hv : dk_vo t.toInt) (hon : on'.toInt = on.toInt + (if t.toInt = 43 then 1 else 0)) (h7 : on'.toInt ≤ 7) (hom : om'.toInt = om.toInt + 1) (hop : op = if t.toInt = 43 then 0 else 1)
    (ht : om.toNatClampNeg = (S.2.1 26 (dp.toNatClampNeg - 1)).toInt.toNat ∨ dk_rk (S.2.1 27 (om.toNatClampNeg - 1)).toInt < dk_rk t.toInt ∨ (t.toInt = 43 ∧ dk_rk (S.2.1 27 (om.toNatClampNeg - 1)).toInt ≤ 3))
    (h4 : dk_ts (S.2.1 22 (dp.toNatClampNeg - 1)).toInt ∧ (S'.2.1 23 (dp.toNatClampNeg - 1)).toInt = 0 → (∀ i, (S.2.1 26 (dp.toNatClampNeg - 1)).toInt.toNat ≤ i → i < om.toNatClampNeg → dk_rk (S.2.1 27 i).toInt ≠ 4) ∧ dk_rk t.toInt ≠ 4) (h3 : dk_ts (S.2.1 22 (dp.toNatClampNeg - 1)).toInt ∧ (S'.2.1 24 (dp.toNatClampNeg - 1)).toInt = 1 → (∀ i, (S.2.1 26 (dp.toNatClampNeg - 1)).toInt.toNat ≤ i → i < om.toNatClampNeg → dk_rk (S.2.1 27 i).toInt ≤ 3) ∧ dk_rk t.toInt ≤ 3) : P0M S' := by
  intro dp' on'' om'' q1 q2 q3
  cases g1.symm.trans q1
  cases g2.symm.trans q2
  cases g3.symm.trans q3
  obtain ⟨a1, a2, a3, a4, a5⟩ := h dp on om f1 f2 f3
  have e : om'.toNatClampNeg = om.toNatClampNeg + 1 := by rw [dk_clN, dk_clN]; omega
  have e0 : (S'.2.1 27) om.toNatClampNeg = t := by rw [r27]; unfold upd; rw [if_pos rfl]
  have k := dk_cnt_s (S'.2.1 27) 43 om.toNatClampNeg
  rw [e0, dk_cnt_congr (f := S.2.1 27) (g := S'.2.1 27) (n := om.toNatClampNeg) (fun j hj => by rw [r27]; unfold upd; rw [if_neg (by omega)])] at k
  rw [r22, r25, r26, e]
  refine ⟨a1.push r27 hph hbg hv hon h7 ht h4 h3, fun z => absurd z (by decide), a3, by omega, ?_⟩
  have e9 : om'.toInt - (dk_cnt (S'.2.1 27) 43 (om.toNatClampNeg + 1) : Int) + dk_ex (S.2.1 22) (S.2.1 25) dp.toNatClampNeg + 0 = om.toInt - (dk_cnt (S.2.1 27) 43 om.toNatClampNeg : Int) + dk_ex (S.2.1 22) (S.2.1 25) dp.toNatClampNeg + op := by
    rcases k with ⟨k1, k2⟩ | ⟨k1, k2⟩
    · rw [if_pos k1] at hop
      omega
    · rw [if_neg k1] at hop
      omega
  rw [e9]
  exact hq _ a5
end DKPS
end
