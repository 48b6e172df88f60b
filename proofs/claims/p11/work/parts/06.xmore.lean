/-! dg_: more of bounds -/
theorem dk_full (x : Int32) : (-2147483648) ≤ x.toInt ∧ x.toInt ≤ 2147483647 := by
  have h1 := Int32.le_toInt x
  have h2 := Int32.toInt_lt x
  omega
theorem dk_shlB {x s : Int32} {b k p : Nat} {B : Int} (h0 : 0 ≤ x.toInt) (h1 : x.toInt ≤ b) (hs : (s.toBitVec.smod 32).toNat = k) (hp : 2 ^ k = p) (hb : b * p ≤ 2147483647) (hB : ((b * p : Nat) : Int) = B) : 0 ≤ (x <<< s).toInt ∧ (x <<< s).toInt ≤ B := by
  subst hB
  obtain ⟨m, hm, rfl⟩ := nI_of (x := x) (dk_nneg h0)
  rw [nI_toInt hm] at h1
  have h2 : m * p ≤ b * p := Nat.mul_le_mul_right p (by omega)
  subst hp
  rw [pk_shlN s k hs (by omega), nI_toInt (by omega)]
  omega
section DGJ
variable {al : List (List Nat)} {tF : List (List dg_t)} {tA : List dg_t} {sh : List dg_q} {o : Nat} {S S1 : dg_S} {i k : Nat} {q : dg_q}
theorem dg_I.intb (I : dg_I al tF tA sh o S) (hq : sh[i]? = some q) {lo hi : Int} (ht : (tF.getD q.2.2.2 [])[k]? = some (1, lo, hi)) {x : Int32} (hf : S.1 i k = .int x) : lo ≤ x.toInt ∧ x.toInt ≤ hi := by
  obtain ⟨y, h1, h2⟩ := I.int hq ht
  rw [hf] at h1
  cases h1
  exact h2
theorem dg_I.ufcp (I : dg_I al tF tA sh o S) {f : Nat → Int32} {n0 : Nat} {sp dp n : Int32} (e : S1 = dg_uf S i (va_cpy f (S.2.1 i) sp.toNatClampNeg dp.toNatClampNeg n.toNatClampNeg)) (hq : sh[i]? = some q) {lo hi : Int} (ht : tA[q.2.2.2]? = some (2, lo, hi)) (hf : dk_row n0 f dg_Pc0 ∧ ((f 0).toInt = 100 → dk_row n0 f dg_Pcel)) (h1 : sp.toNatClampNeg = 0) (h2 : dp.toNatClampNeg = 0) (h3 : q.2.2.1 ≤ n.toNatClampNeg ∧ n.toNatClampNeg ≤ n0) (h4 : 1 ≤ n.toNatClampNeg) : dg_I al tF tA sh o S1 :=
  I.uf e hq (fun t h => by
    rw [ht] at h
    cases h
    refine ⟨dk_row_cpyA hf.1 _ _ _ h1 h2 h3.1 (by omega), fun h0 => ?_⟩
    rw [h1, h2, pk_cpy_in (Nat.le_refl 0) (by omega)] at h0
    exact dk_row_cpyA (hf.2 h0) _ _ _ h1 h2 h3.1 (by omega))
theorem dg_I.ufcg (I : dg_I al tF tA sh o S) {f : Nat → Int32} {n0 : Nat} {sp dp n : Int32} (e : S1 = dg_uf S i (va_cpy f (S.2.1 i) sp.toNatClampNeg dp.toNatClampNeg n.toNatClampNeg)) (hq : sh[i]? = some q) {lo hi : Int} (ht : tA[q.2.2.2]? = some (2, lo, hi)) {lo2 hi2 : Int} (hf : dk_all n0 f lo2 hi2) (h0 : 0 ≤ lo2) (h9 : hi2 ≤ 99) (hsd : sp = dp) (h8 : 8 ≤ dp.toInt) (h64 : dp.toInt + n.toInt ≤ 64) (hn : 0 ≤ n.toInt ∧ sp.toInt + n.toInt ≤ (n0 : Int)) : dg_I al tF tA sh o S1 := by
  subst hsd
  refine I.uf e hq (fun t h => ?_)
  rw [ht] at h
  cases h
  have e1 := dk_clN sp
  have e2 := dk_clN n
  have key : ∀ P : Int → Int → Prop, (∀ j v : Int, 0 ≤ v → v ≤ 99 → 8 ≤ j → j ≤ 63 → P j v) → dk_row q.2.2.1 (S.2.1 i) P → dk_row q.2.2.1 (va_cpy f (S.2.1 i) sp.toNatClampNeg sp.toNatClampNeg n.toNatClampNeg) P := by
    intro P hPv hg j hj
    by_cases z : sp.toNatClampNeg ≤ j ∧ j < sp.toNatClampNeg + n.toNatClampNeg
    · rw [pk_cpy_in z.1 z.2, show sp.toNatClampNeg + (j - sp.toNatClampNeg) = j by omega]
      have h5 := hf j (by omega)
      exact hPv _ _ (by omega) (by omega) (by omega) (by omega)
    · rw [pk_cpy_out (by omega)]
      exact hg j hj
  refine ⟨key dg_Pc0 (fun j v a1 a2 a3 a4 => ⟨a1, by omega, fun _ => ⟨a3, a4⟩⟩) (I.cel0 hq ht), fun h6 => ?_⟩
  rw [pk_cpy_out (by omega)] at h6
  exact key dg_Pcel (fun j v a1 a2 a3 a4 => ⟨a1, by omega, fun _ => ⟨a3, a4⟩⟩) (I.cel hq ht h6)
end DGJ
theorem dk_divL {x y : Int32} {b : Int} (h0 : 0 ≤ x.toInt) (hy : y.toInt = b) (hb : 0 < b) : (x / y).toInt = x.toInt / b := by
  subst hy
  obtain ⟨m, hm, rfl⟩ := nI_of (x := x) (dk_nneg h0)
  obtain ⟨k, hk, rfl⟩ := nI_of (x := y) (dk_nneg (by omega))
  rw [nI_toInt hk] at hb
  have h1 : m / k ≤ m := Nat.div_le_self m k
  rw [pk_div hm (by omega) hk, nI_toInt hm, nI_toInt hk, nI_toInt (by omega)]
  exact Int.natCast_ediv m k
theorem dk_remL {x y : Int32} {b : Int} (h0 : 0 ≤ x.toInt) (hy : y.toInt = b) (hb : 0 < b) : (x - x / y * y).toInt = x.toInt % b := by
  subst hy
  obtain ⟨m, hm, rfl⟩ := nI_of (x := x) (dk_nneg h0)
  obtain ⟨k, hk, rfl⟩ := nI_of (x := y) (dk_nneg (by omega))
  rw [nI_toInt hk] at hb
  have h1 : m % k ≤ m := Nat.mod_le m k
  rw [pk_rem hm (by omega) hk, nI_toInt hm, nI_toInt hk, nI_toInt (by omega)]
  exact Int.natCast_emod m k
section DGQ
variable {p : Program} {l : Launch} {e : Env} {R : Room} {s : State} {m : MethodId} {args : Array Value} {below : List Frame} {meth : Method} {c : Code} {H : Heap} {locs : List Loc} {cells slots : Nat} {Q : State → Prop}
variable {cc : ByteArray} {pc : Nat} {ls : Array Slot} {rest : List Value} {D : va_G} {A : Nat → Prop} {H0 : Heap} {g : Nat → ClassId} {sh : List dg_q} {o : Nat} {rf : dg_R} {S : dg_S}
theorem dg_aalda (hx : p.tables.exec = Jvm.exec) (hb : c.code = cc) (K : dk_K g D s) (hP : va_P D vwCl (dg_w g sh o rf S) H) {i n ro d : Nat} (hi : sh[i]? = some (4, 4, n, ro)) {x : Int32} (hin : vp_in x n) (hd : rf i x.toNatClampNeg = some d) (hdg : decode cc pc = .ok (.aaload, 1))
    (kk : W p l e R s m args below meth c H locs cells slots Q (F0 m (pc + 1) ls (.ref (o + d) :: rest))) : W p l e R s m args below meth c H locs cells slots Q (F0 m pc ls (.int x :: .ref (o + i) :: rest)) := by
  have hlt : x.toNatClampNeg < n := Nat.not_le.mp fun q => hin (Or.inr q)
  have e1 : va_rf ((rf i x.toNatClampNeg).map (o + ·)) = .ref (o + d) := by rw [hd]; rfl
  rw [← e1] at kk
  exact W.aald (v := va_rf ((rf i x.toNatClampNeg).map (o + ·))) (ty := .array .int) hx hb (hP i _ (dg_w_at hi)) ((K.1.2 4 _ rfl).1 n (fun j => va_rf ((rf i j).map (o + ·)))) rfl (fun q => by cases q) (by show ¬ (x < 0 ∨ (arrV _ _ _).slots.size ≤ _); rw [arrV_size]; exact hin) (by show (arrV _ _ _).slots[_]? = _; rw [arrV_read _ _ hlt]) rfl rfl hdg kk
end DGQ
