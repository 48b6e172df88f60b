
theorem c_fillF (l : Launch) (g : Nat → ClassId) (D : va_G) {sh : List dg_q} {o : Nat} {rf : dg_R} (S : dg_S) {i c0 n ro : Nat} (hi : sh[i]? = some (1, c0, n, ro)) (hn : n < 2 ^ 31) (v : Int32) (sz : Nat) : Met l yJ7_fill_53178 (bw yJ7_fill_53178 cJ7_fill_53178 4 none) ({ frames := 1, cells := 0, slots := 0, locals := 32 } : Room) (dk_Pc g D (dg_w g sh o rf S) sz [.ref (o + i), .int v]) (va_Qv (fun S' => ∃ r : Nat → Int32, S' = dg_uf S i r ∧ (∀ j, j < n → r j = v) ∧ r = dk_fl (S.2.1 i) v n) (dg_B g D sh o rf) (dg_A o sh.length sz)) 0 0 (dg_A o sh.length sz) := by
  refine dg_met (cc := cJ7_fill_53178) (maxL := 4) (ret := none) (by decide) rfl (Nat.le_of_ble_eq_true rfl) ?_
  intro p e s m args below meth c A hAe harg hx hb hr hml hts hown hlocks hin hP K hS hA1 hA ST hsz ls hl
  rw [← hAe]
  have hl : lv_has ls 4 [(0, .ref (o + i)), (1, .int v)] := hl
  refine lv_iconst (v := 0) hx hb dJ7_fill_53178_0 (by decide +kernel) ?_
  refine lv_istore_n (lv' := [(2, .int 0), (0, .ref (o + i)), (1, .int v)]) hx hb dJ7_fill_53178_1 rfl hl (by decide) rfl (fun ls hl => ?_)
  refine lv_aload_n hx hb dJ7_fill_53178_2 rfl (lv_at hl 1 rfl) ?_
  refine dg_alen hx hb K hP hi (v := nI n) rfl dJ7_fill_53178_3 ?_
  refine lv_istore_n (lv' := [(3, .int (nI n)), (2, .int 0), (0, .ref (o + i)), (1, .int v)]) hx hb dJ7_fill_53178_4 rfl hl (by decide) rfl (fun ls hl => ?_)
  have loop : ∀ (t k : Nat), k + t = n → ∀ r : Nat → Int32, ((∀ j, j < k → r j = v) ∧ r = dk_fl (S.2.1 i) v k) → ∀ (H : Heap) (locs : List Loc), va_P D vwCl (dg_w g sh o rf (dg_uf S i r)) H → va_S A s.heap H locs → ∀ ls : Array Slot, lv_has ls 4 [(3, .int (nI n)), (2, .int (nI k)), (0, .ref (o + i)), (1, .int v)] → W p l e ({ frames := 1, cells := 0, slots := 0, locals := 32 } : Room) s m args below meth c H locs 0 0 (MQ below (va_Qv (fun S' => ∃ r : Nat → Int32, S' = dg_uf S i r ∧ (∀ j, j < n → r j = v) ∧ r = dk_fl (S.2.1 i) v n) (dg_B g D sh o rf) A) args s 0 0 A) (F0 m 5 ls []) := by
    intro t
    induction t with
    | zero =>
      intro k hk r hr0 H locs hP hS ls hl
      obtain rfl : k = n := by omega
      refine lv_iload_n hx hb dJ7_fill_53178_5 rfl (lv_at hl 1 rfl) ?_
      refine lv_iload_n hx hb dJ7_fill_53178_6 rfl (lv_at hl 0 rfl) ?_
      refine lv_icmp_ge (tgt := 20) hx hb dJ7_fill_53178_7 (by decide) (fun _ => ?_) (fun c => absurd (nI_le (Nat.le_refl _) hn) c)
      refine W.widen (k := 0) (n := 0) (Nat.le_of_ble_eq_true rfl) (Nat.le_of_ble_eq_true rfl) ?_
      exact dg_vret hx hb hr hlocks hP hS ⟨r, rfl, hr0.1, hr0.2⟩ dJ7_fill_53178_20
    | succ t ih =>
      intro k hk r hr0 H locs hP hS ls hl
      refine lv_iload_n hx hb dJ7_fill_53178_5 rfl (lv_at hl 1 rfl) ?_
      refine lv_iload_n hx hb dJ7_fill_53178_6 rfl (lv_at hl 0 rfl) ?_
      refine lv_icmp_ge (tgt := 20) hx hb dJ7_fill_53178_7 (by decide) (fun c => absurd c (nI_ge (a := k) (b := n) (by omega) (by omega))) (fun _ => ?_)
      refine lv_aload_n hx hb dJ7_fill_53178_10 rfl (lv_at hl 2 rfl) ?_
      refine lv_iload_n hx hb dJ7_fill_53178_11 rfl (lv_at hl 1 rfl) ?_
      refine lv_iload_n hx hb dJ7_fill_53178_12 rfl (lv_at hl 3 rfl) ?_
      refine dg_iast hx hb K hP hS hA1 hi (nI_in (by omega) (by omega)) dJ7_fill_53178_13 (fun S1 e1 H locs hP hS => ?_)
      rw [e1, dg_uf_uf] at hP
      refine lv_iinc (v := nI (k + 1)) (lv' := [(2, .int (nI (k + 1))), (3, .int (nI n)), (0, .ref (o + i)), (1, .int v)]) hx hb dJ7_fill_53178_14 hl (k := 1) rfl (by rw [nI_succ]; rfl) (by decide) rfl (fun ls hl => ?_)
      refine lv_goto (tgt := 5) hx hb dJ7_fill_53178_17 (by decide) ?_
      have e2 : (dg_uf S i r).2.1 i = r := dg_uf_at rfl
      have e3 : upd ((dg_uf S i r).2.1 i) (nI k).toNatClampNeg v = dk_fl (S.2.1 i) v (k + 1) := by
        rw [e2, nI_clamp (by omega), hr0.2]
        funext j
        exact dk_fl_s _ _ _ _
      refine ih (k + 1) (by omega) _ ⟨fun j hj => ?_, e3⟩ _ _ hP hS _ (lv_sub hl [1, 0, 2, 3] rfl)
      rw [e3]
      unfold dk_fl
      rw [if_pos hj]
  have hP : va_P D vwCl (dg_w g sh o rf (dg_uf S i (S.2.1 i))) s.heap := by rw [dg_uf_self]; exact hP
  exact loop n 0 (by omega) _ ⟨fun j hj => absurd hj (Nat.not_lt_zero j), (dk_fl_0 _ _).symm⟩ _ _ hP hS _ (lv_sub hl [0, 1, 2, 3] rfl)
