/-! Arrays.fill -/
theorem dJ7_fill_53178_0 : decode cJ7_fill_53178 0 = .ok (.iconst 0, 1) := by decide +kernel
theorem dJ7_fill_53178_1 : decode cJ7_fill_53178 1 = .ok (.istore_n 2, 1) := by decide +kernel
theorem dJ7_fill_53178_2 : decode cJ7_fill_53178 2 = .ok (.aload_n 0, 1) := by decide +kernel
theorem dJ7_fill_53178_3 : decode cJ7_fill_53178 3 = .ok (.arraylength, 1) := by decide +kernel
theorem dJ7_fill_53178_4 : decode cJ7_fill_53178 4 = .ok (.istore_n 3, 1) := by decide +kernel
theorem dJ7_fill_53178_5 : decode cJ7_fill_53178 5 = .ok (.iload_n 2, 1) := by decide +kernel
theorem dJ7_fill_53178_6 : decode cJ7_fill_53178 6 = .ok (.iload_n 3, 1) := by decide +kernel
theorem dJ7_fill_53178_7 : decode cJ7_fill_53178 7 = .ok (.if_icmp .ge 13, 3) := by decide +kernel
theorem dJ7_fill_53178_10 : decode cJ7_fill_53178 10 = .ok (.aload_n 0, 1) := by decide +kernel
theorem dJ7_fill_53178_11 : decode cJ7_fill_53178 11 = .ok (.iload_n 2, 1) := by decide +kernel
theorem dJ7_fill_53178_12 : decode cJ7_fill_53178 12 = .ok (.iload_n 1, 1) := by decide +kernel
theorem dJ7_fill_53178_13 : decode cJ7_fill_53178 13 = .ok (.iastore, 1) := by decide +kernel
theorem dJ7_fill_53178_14 : decode cJ7_fill_53178 14 = .ok (.iinc 2 1, 3) := by decide +kernel
theorem dJ7_fill_53178_17 : decode cJ7_fill_53178 17 = .ok (.goto (-12), 3) := by decide +kernel
theorem dJ7_fill_53178_20 : decode cJ7_fill_53178 20 = .ok (.return_, 1) := by decide +kernel
theorem dg_uf_self (S : dg_S) (i : Nat) : dg_uf S i (S.2.1 i) = S := by
  have h : (fun a => if a = i then S.2.1 i else S.2.1 a) = S.2.1 := by
    funext a
    by_cases q : a = i
    · rw [if_pos q, q]
    · rw [if_neg q]
  show (S.1, (fun a => if a = i then S.2.1 i else S.2.1 a), S.2.2) = S
  rw [h]
theorem dg_uf_uf (S : dg_S) (i : Nat) (r r' : Nat → Int32) : dg_uf (dg_uf S i r) i r' = dg_uf S i r' := by
  have h : (fun a => if a = i then r' else (dg_uf S i r).2.1 a) = (fun a => if a = i then r' else S.2.1 a) := by
    funext a
    by_cases q : a = i
    · rw [if_pos q, if_pos q]
    · rw [if_neg q, if_neg q]
      simp [dg_uf, q]
  show (S.1, (fun a => if a = i then r' else (dg_uf S i r).2.1 a), S.2.2) = (S.1, (fun a => if a = i then r' else S.2.1 a), S.2.2)
  rw [h]
section DGK
variable {al : List (List Nat)} {tF : List (List dg_t)} {tA : List dg_t} {sh : List dg_q} {o : Nat} {S S1 : dg_S} {i k : Nat} {q : dg_q}
theorem dg_I.uffi (I : dg_I al tF tA sh o S) {r0 : Nat → Int32} {v : Int32} (e : S1 = dg_uf S i r0) (hq : sh[i]? = some q) {lo hi : Int} (ht : tA[q.2.2.2]? = some (1, lo, hi)) (hr : ∀ j, j < q.2.2.1 → r0 j = v) (hx : lo ≤ v.toInt ∧ v.toInt ≤ hi) : dg_I al tF tA sh o S1 := I.ufr e hq ht (fun j hj => by rw [hr j hj]; exact hx)
theorem dg_I.uffc (I : dg_I al tF tA sh o S) {r0 : Nat → Int32} {v : Int32} (e : S1 = dg_uf S i r0) (hq : sh[i]? = some q) {lo hi : Int} (ht : tA[q.2.2.2]? = some (2, lo, hi)) (hr : ∀ j, j < q.2.2.1 → r0 j = v) (hx : v.toInt = 100) : dg_I al tF tA sh o S1 := I.uf e hq (fun t h => by
  rw [ht] at h
  cases h
  have h1 : dk_row q.2.2.1 r0 dg_Pcel := by
    intro j hj
    rw [hr j hj, hx]
    unfold dg_Pcel
    omega
  exact ⟨fun j hj => (h1 j hj).p0, fun _ => h1⟩)
end DGK
set_option maxHeartbeats 8000000 in
set_option maxRecDepth 100000 in
/-- Arrays.fill over a row of any length -/
theorem c_fill (l : Launch) (g : Nat → ClassId) (D : va_G) {sh : List dg_q} {o : Nat} {rf : dg_R} (S : dg_S) {i c0 n ro : Nat} (hi : sh[i]? = some (1, c0, n, ro)) (hn : n < 2 ^ 31) (v : Int32) (sz : Nat) : Met l yJ7_fill_53178 (bw yJ7_fill_53178 cJ7_fill_53178 4 none) ({ frames := 1, cells := 0, slots := 0, locals := 32 } : Room) (dk_Pc g D (dg_w g sh o rf S) sz [.ref (o + i), .int v]) (va_Qv (fun S' => ∃ r : Nat → Int32, S' = dg_uf S i r ∧ ∀ j, j < n → r j = v) (dg_B g D sh o rf) (dg_A o sh.length sz)) 0 0 (dg_A o sh.length sz) := by
  refine dg_met (cc := cJ7_fill_53178) (maxL := 4) (ret := none) (by decide) rfl (Nat.le_of_ble_eq_true rfl) ?_
  intro p e s m args below meth c A hAe harg hx hb hr hml hts hown hlocks hin hP K hS hA1 hA ST hsz ls hl
  rw [← hAe]
  have hl : lv_has ls 4 [(0, .ref (o + i)), (1, .int v)] := hl
  refine lv_iconst (v := 0) hx hb dJ7_fill_53178_0 (by decide +kernel) ?_
  refine lv_istore_n (lv' := [(2, .int 0), (0, .ref (o + i)), (1, .int v)]) hx hb dJ7_fill_53178_1 rfl hl (by decide) rfl (fun ls hl => ?_)
  refine lv_aload_n hx hb dJ7_fill_53178_2 rfl (lv_at hl 1 rfl) ?_
  refine dg_alen hx hb K hP hi (v := nI n) rfl dJ7_fill_53178_3 ?_
  refine lv_istore_n (lv' := [(3, .int (nI n)), (2, .int 0), (0, .ref (o + i)), (1, .int v)]) hx hb dJ7_fill_53178_4 rfl hl (by decide) rfl (fun ls hl => ?_)
  have loop : ∀ (t k : Nat), k + t = n → ∀ r : Nat → Int32, (∀ j, j < k → r j = v) → ∀ (H : Heap) (locs : List Loc), va_P D vwCl (dg_w g sh o rf (dg_uf S i r)) H → va_S A s.heap H locs → ∀ ls : Array Slot, lv_has ls 4 [(3, .int (nI n)), (2, .int (nI k)), (0, .ref (o + i)), (1, .int v)] → W p l e ({ frames := 1, cells := 0, slots := 0, locals := 32 } : Room) s m args below meth c H locs 0 0 (MQ below (va_Qv (fun S' => ∃ r : Nat → Int32, S' = dg_uf S i r ∧ ∀ j, j < n → r j = v) (dg_B g D sh o rf) A) args s 0 0 A) (F0 m 5 ls []) := by
    intro t
    induction t with
    | zero =>
      intro k hk r hr0 H locs hP hS ls hl
      obtain rfl : k = n := by omega
      refine lv_iload_n hx hb dJ7_fill_53178_5 rfl (lv_at hl 1 rfl) ?_
      refine lv_iload_n hx hb dJ7_fill_53178_6 rfl (lv_at hl 0 rfl) ?_
      refine lv_icmp_ge (tgt := 20) hx hb dJ7_fill_53178_7 (by decide) (fun _ => ?_) (fun c => absurd (nI_le (Nat.le_refl _) hn) c)
      refine W.widen (k := 0) (n := 0) (Nat.le_of_ble_eq_true rfl) (Nat.le_of_ble_eq_true rfl) ?_
      exact dg_vret hx hb hr hlocks hP hS ⟨r, rfl, hr0⟩ dJ7_fill_53178_20
    | succ t ih =>
      intro k hk r hr0 H locs hP hS ls hl
      refine lv_iload_n hx hb dJ7_fill_53178_5 rfl (lv_at hl 1 rfl) ?_
      refine lv_iload_n hx hb dJ7_fill_53178_6 rfl (lv_at hl 0 rfl) ?_
      refine lv_icmp_ge (tgt := 20) hx hb dJ7_fill_53178_7 (by decide) (fun c => absurd c (nI_ge (a := k) (b := n) (by omega) (by omega))) (fun _ => ?_)
      refine lv_aload_n hx hb dJ7_fill_53178_10 rfl (lv_at hl 2 rfl) ?_
      refine lv_iload_n hx hb dJ7_fill_53178_11 rfl (lv_at hl 1 rfl) ?_
      refine lv_iload_n hx hb dJ7_fill_53178_12 rfl (lv_at hl 3 rfl) ?_
      refine dg_iast hx hb K hP hS hA1 hi (nI_in (by omega) (by omega)) dJ7_fill_53178_13 (fun S1 e1 H locs hP hS => ?_)
      rw [e1, dg_uf_uf] at hP
      refine lv_iinc (v := nI (k + 1)) (lv' := [(2, .int (nI (k + 1))), (3, .int (nI n)), (0, .ref (o + i)), (1, .int v)]) hx hb dJ7_fill_53178_14 hl (k := 1) rfl (by rw [nI_succ]; rfl) (by decide) rfl (fun ls hl => ?_)
      refine lv_goto (tgt := 5) hx hb dJ7_fill_53178_17 (by decide) ?_
      refine ih (k + 1) (by omega) _ (fun j hj => ?_) _ _ hP hS _ (lv_sub hl [1, 0, 2, 3] rfl)
      have e2 : (dg_uf S i r).2.1 i = r := dg_uf_at rfl
      rw [e2, nI_clamp (by omega)]
      unfold upd
      split
      · rfl
      · exact hr0 j (by omega)
  have hP : va_P D vwCl (dg_w g sh o rf (dg_uf S i (S.2.1 i))) s.heap := by rw [dg_uf_self]; exact hP
  exact loop n 0 (by omega) _ (fun j hj => absurd hj (Nat.not_lt_zero j)) _ _ hP hS _ (lv_sub hl [0, 1, 2, 3] rfl)
