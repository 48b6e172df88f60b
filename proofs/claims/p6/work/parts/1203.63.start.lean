/-! 63.start.lean.txt -/
theorem dL_law_0 : decode cL_law 0 = .ok (.new 7, 3) := by decide +kernel
theorem dL_law_3 : decode cL_law 3 = .ok (.dup, 1) := by decide +kernel
theorem dL_law_4 : decode cL_law 4 = .ok (.invokespecial 9, 3) := by decide +kernel
theorem dL_law_7 : decode cL_law 7 = .ok (.astore_n 1, 1) := by decide +kernel
theorem dL_law_8 : decode cL_law 8 = .ok (.new 10, 3) := by decide +kernel
theorem dL_law_11 : decode cL_law 11 = .ok (.dup, 1) := by decide +kernel
theorem dL_law_12 : decode cL_law 12 = .ok (.invokespecial 12, 3) := by decide +kernel
theorem dL_law_15 : decode cL_law 15 = .ok (.astore_n 2, 1) := by decide +kernel
theorem dL_law_16 : decode cL_law 16 = .ok (.iconst 0, 1) := by decide +kernel
theorem dL_law_17 : decode cL_law 17 = .ok (.istore_n 3, 1) := by decide +kernel
theorem wB_1674 : Cond.code yX11_init cX11_init 1 none ∈ dgB := List.mem_filter.mpr ⟨tbl_1 _ (List.mem_of_getElem? (i := 26) rfl), rfl⟩
theorem wB_1675 : Cond.code yX12_init cX12_init 2 none ∈ dgB := List.mem_filter.mpr ⟨tbl_6 _ (List.mem_of_getElem? (i := 160) rfl), rfl⟩
theorem wB_1676 : Cond.classLink RL 7 RX11 ∈ dgB := List.mem_filter.mpr ⟨tbl_1 _ (List.mem_of_getElem? (i := 22) (by decide +kernel)), by decide +kernel⟩
theorem wB_1677 : Cond.methodLink RL 9 yX11_init ∈ dgB := List.mem_filter.mpr ⟨tbl_1 _ (List.mem_of_getElem? (i := 24) (by decide +kernel)), by decide +kernel⟩
theorem wB_1678 : Cond.instanceMethod yX11_init ∈ dgB := List.mem_filter.mpr ⟨tbl_1 _ (List.mem_of_getElem? (i := 25) (by decide +kernel)), by decide +kernel⟩
theorem wB_1679 : Cond.classLink RL 10 RX12 ∈ dgB := List.mem_filter.mpr ⟨tbl_6 _ (List.mem_of_getElem? (i := 156) (by decide +kernel)), by decide +kernel⟩
theorem wB_1680 : Cond.methodLink RL 12 yX12_init ∈ dgB := List.mem_filter.mpr ⟨tbl_6 _ (List.mem_of_getElem? (i := 158) (by decide +kernel)), by decide +kernel⟩
theorem wB_1681 : Cond.instanceMethod yX12_init ∈ dgB := List.mem_filter.mpr ⟨tbl_6 _ (List.mem_of_getElem? (i := 159) (by decide +kernel)), by decide +kernel⟩
/-! the law from its entry -/
theorem lw_apM1 {g : Nat → ClassId} {oX oM : Nat} {rf : dg_R} {S : dg_S} (hO : oX + 380 ≤ oM) : ∀ (k : Nat) (q : Nat × va_E), (dg_w g shX oX rf S)[k]? = some q → ¬ (oM ≤ q.1 ∧ q.1 < oM + (shM.take 1).length) := by
  intro k q h
  have h1 := dg_w_key h
  rw [shX_len] at h1
  omega
set_option maxHeartbeats 8000000 in
set_option maxRecDepth 100000 in
theorem whole_start {p : Program} {e : Env} {s : State} {m : MethodId} {below : List Frame} {meth : Method} {c : Code} (l : Launch) (_hflags : l.flags = flags0) {b L : Nat} {xs : Nat → Int32} (hL : L ≤ 3072) (C0 : lw_At p s m meth c b L xs) : W p l e room_1 s m #[Value.ref b] below meth c s.heap [] 0 0 (lw_Z below #[Value.ref b] s) (entryFrame m ([Value.ref b] : List Value).toArray 4) := by
  obtain ⟨hx, hb0, hr, hml, hown0, hts, hX, hbl, hlocks, hgv⟩ := id C0
  have hb : c.code = cL_law := hb0
  have hown : s.vm.findClass RL = some m.cls := hown0
  obtain ⟨D, g, K⟩ := law_tables hts
  obtain ⟨A, hA, hAi⟩ : ∃ A : Nat → Prop, (∀ q : Nat, s.heap.size ≤ q → A q) ∧ ∀ q : Nat, A q → s.heap.size ≤ q := ⟨fun q => s.heap.size ≤ q, fun _ h => h, fun _ h => h⟩
  have ST : dk_ST A s s.heap := law_ST hts hgv (fun a h z => Nat.not_le.mpr h (hAi a z))
  have C : law_St p s m meth c b L xs g D A := ⟨hx, hb, hr, hml, hown, hts, hX, hbl, hlocks, K, hA, hAi⟩
  have hS : va_S A s.heap s.heap [] := va_S.rf
  have hW : va_P D vwCl [] s.heap := fun k q h => by simp at h
  have hl := lv_entry ([.ref b]) (n := 4) (Nat.le_of_ble_eq_true rfl)
  rw [lg_entry_eq]
  generalize (lg_sl ([.ref b]) ++ List.replicate (4 - (lg_sl ([.ref b])).length) Slot.unset).toArray = ls at hl ⊢
  have hl : lv_has ls 4 [(0, .ref b)] := hl
  have F : CallFix p m c cL_law 4 s #[Value.ref b] lw_tbl RL := ⟨hx, hb, hml, hown, hts⟩
  obtain ⟨oX, hoX⟩ : ∃ o, o = s.heap.size := ⟨_, rfl⟩
  have hoXA : ∀ i, A (oX + i) := fun i => hA _ (by rw [hoX]; exact Nat.le_add_right _ _)
  refine lw_newo (ci := 11) (C := RX11) (T := TX11) (N := 13) (rf := dg_rf0) (sh := shX) hx hb hts (fun w h => lw_mem (wU_X11 w h)) tyX11 tyX11_ok hown (hts _ (lw_mem wB_1676)) (hts _ (lw_mem wB_1400)) (hts _ (lw_mem wB_610)) K hW hS hoX.symm sX_0 rfl (Nat.le_of_ble_eq_true rfl) (Nat.le_of_ble_eq_true rfl) dL_law_0 (fun SX0 d0 H hP hW hS hz => ?_)
  refine W.widen (k := 1) (n := 13) (Nat.le_of_ble_eq_true rfl) (Nat.le_of_ble_eq_true rfl) ?_
  refine lv_dup hx hb dL_law_3 rfl ?_
  refine lw_gcallv hz hS (fun i _ => hoXA i) hA (va_runI (As := []) (rest := [.ref (oX + 0)]) F (c_n_mine l g D oX SX0 (fun b _ => d0 b)) (cwI 0 hts (lw_bw wB_1674) rfl rfl rfl (hts _ (lw_mem wB_610)) (hts _ (lw_mem wB_1677)) (hts _ (lw_mem wB_1678)) rfl (by decide +kernel) ⟨Nat.le_of_ble_eq_true rfl, Nat.le_of_ble_eq_true rfl⟩) (by rw [← hz]; exact dg_preS K ST hP hS (fun i _ => hoXA i) hA) rfl rfl hl.1 rfl (lv_room (Nat.le_of_ble_eq_true rfl)) dL_law_4 ⟨Nat.le_of_ble_eq_true rfl, Nat.le_of_ble_eq_true rfl⟩) hW (fun k q h => by simp at h) (fun SX hw H locs hP hW hS => ?_)
  obtain ⟨IX, Z1, Z2, Z3, Z4, Z6, tX, gX6, gX7, gX0, sx1, -⟩ := hw
  refine W.widen (k := 380) (n := 19843) (Nat.le_of_ble_eq_true rfl) (Nat.le_of_ble_eq_true rfl) ?_
  refine lv_astore_n (lv' := [(1, .ref (oX + 0)), (0, .ref b)]) hx hb dL_law_7 rfl hl (by decide) rfl (fun ls hl => ?_)
  have hW := hP
  obtain ⟨oM, hoM⟩ : ∃ o, o = H.size := ⟨_, rfl⟩
  have hO : oX + 380 ≤ oM := by
    have h1 := (hP 379 _ (dg_w_get (by rw [shX_len]; omega))).lt
    have h2 : oX + 379 < H.size := h1
    omega
  have hoMA : ∀ i, A (oM + i) := fun i => hA _ (by have h1 := hS.1; omega)
  refine lw_newo (ci := 12) (C := RX12) (T := TX12) (N := 77) (rf := rfM) (sh := shM) hx hb hts (fun w h => lw_mem (wU_X12 w h)) tyX12 tyX12_ok hown (hts _ (lw_mem wB_1679)) (hts _ (lw_mem wB_1401)) (hts _ (lw_mem wB_297)) K hW hS hoM.symm sM_0 rfl (Nat.le_of_ble_eq_true rfl) (Nat.le_of_ble_eq_true rfl) dL_law_8 (fun SM0 d0 H hP hW hS hz => ?_)
  refine W.widen (k := 381) (n := 19920) (Nat.le_of_ble_eq_true rfl) (Nat.le_of_ble_eq_true rfl) ?_
  refine lv_dup hx hb dL_law_11 rfl ?_
  refine lw_gcallv hz hS (fun i _ => hoMA i) hA (va_runI (As := []) (rest := [.ref (oM + 0)]) F (c_n_model l g D oM SM0 (fun b _ => d0 b)) (cwI 0 hts (lw_bw wB_1675) rfl rfl rfl (hts _ (lw_mem wB_297)) (hts _ (lw_mem wB_1680)) (hts _ (lw_mem wB_1681)) rfl (by decide +kernel) ⟨Nat.le_of_ble_eq_true rfl, Nat.le_of_ble_eq_true rfl⟩) (by rw [← hz]; exact dg_preS K ST hP hS (fun i _ => hoMA i) hA) rfl rfl hl.1 rfl (lv_room (Nat.le_of_ble_eq_true rfl)) dL_law_12 ⟨Nat.le_of_ble_eq_true rfl, Nat.le_of_ble_eq_true rfl⟩) hW (lw_apM1 hO) (fun SM hw H locs hP hW hS => ?_)
  obtain ⟨IM, ZB, ZS, ZW, ZD, tM, gM0, sm1, -⟩ := hw
  refine W.widen (k := 431) (n := 78943) (Nat.le_of_ble_eq_true rfl) (Nat.le_of_ble_eq_true rfl) ?_
  refine lv_astore_n (lv' := [(2, .ref (oM + 0)), (1, .ref (oX + 0)), (0, .ref b)]) hx hb dL_law_15 rfl hl (by decide) rfl (fun ls hl => ?_)
  refine lv_iconst (v := 0) hx hb dL_law_16 (by decide +kernel) ?_
  refine lv_istore_n (lv' := [(3, .int 0), (2, .ref (oM + 0)), (1, .ref (oX + 0)), (0, .ref b)]) hx hb dL_law_17 rfl hl (by decide) rfl (fun ls hl => ?_)
  exact law_loop l C ST hO hoXA hoMA hL 4000 0 (by decide +kernel) (by decide +kernel) (by decide +kernel) SX SM H locs ls hW hP hS ⟨IX, Z1, Z2, Z3, Z4, Z6⟩ ⟨IM, ZB, ZS, ZW, ZD⟩ ⟨0, tX, tM, fun j hj => absurd hj (by have h9 := dk_clN (0 : Int32); have h8 : (0 : Int32).toInt = 0 := (by decide +kernel); omega)⟩ ⟨185, 197, LW.start sx1 sm1 tX tM gX6 gX7⟩ hl
