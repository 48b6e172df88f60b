section
/-! 10.ground.lean.txt -/
theorem dX2_hasSeam_0 : decode cX2_hasSeam 0 = .ok (.aload_n 0, 1) := dk_o42 (by decide +kernel)
theorem dX2_hasSeam_1 : decode cX2_hasSeam 1 = .ok (.getfield 49, 3) := dk_o180 (by decide +kernel)
theorem dX2_hasSeam_4 : decode cX2_hasSeam 4 = .ok (.ifCond .le 7, 3) := dk_o158 (by decide +kernel)
theorem dX2_hasSeam_7 : decode cX2_hasSeam 7 = .ok (.iconst 1, 1) := dk_o4 (by decide +kernel)
theorem dX2_hasSeam_8 : decode cX2_hasSeam 8 = .ok (.goto 4, 3) := dk_o167 (by decide +kernel)
theorem dX2_hasSeam_11 : decode cX2_hasSeam 11 = .ok (.iconst 0, 1) := dk_o3 (by decide +kernel)
theorem dX2_hasSeam_12 : decode cX2_hasSeam 12 = .ok (.ireturn, 1) := dk_o172 (by decide +kernel)
theorem dX2_hasMiner_0 : decode cX2_hasMiner 0 = .ok (.iload_n 1, 1) := dk_o27 (by decide +kernel)
theorem dX2_hasMiner_1 : decode cX2_hasMiner 1 = .ok (.ifCond .lt 15, 3) := dk_o155 (by decide +kernel)
theorem dX2_hasMiner_4 : decode cX2_hasMiner 4 = .ok (.iload_n 1, 1) := dk_o27 (by decide +kernel)
theorem dX2_hasMiner_5 : decode cX2_hasMiner 5 = .ok (.aload_n 0, 1) := dk_o42 (by decide +kernel)
theorem dX2_hasMiner_6 : decode cX2_hasMiner 6 = .ok (.getfield 67, 3) := dk_o180 (by decide +kernel)
theorem dX2_hasMiner_9 : decode cX2_hasMiner 9 = .ok (.if_icmp .ge 7, 3) := dk_o162 (by decide +kernel)
theorem dX2_hasMiner_12 : decode cX2_hasMiner 12 = .ok (.iconst 1, 1) := dk_o4 (by decide +kernel)
theorem dX2_hasMiner_13 : decode cX2_hasMiner 13 = .ok (.goto 4, 3) := dk_o167 (by decide +kernel)
theorem dX2_hasMiner_16 : decode cX2_hasMiner 16 = .ok (.iconst 0, 1) := dk_o3 (by decide +kernel)
theorem dX2_hasMiner_17 : decode cX2_hasMiner 17 = .ok (.ireturn, 1) := dk_o172 (by decide +kernel)
theorem dX2_hasPlanRow_0 : decode cX2_hasPlanRow 0 = .ok (.iload_n 1, 1) := dk_o27 (by decide +kernel)
theorem dX2_hasPlanRow_1 : decode cX2_hasPlanRow 1 = .ok (.ifCond .lt 15, 3) := dk_o155 (by decide +kernel)
theorem dX2_hasPlanRow_4 : decode cX2_hasPlanRow 4 = .ok (.iload_n 1, 1) := dk_o27 (by decide +kernel)
theorem dX2_hasPlanRow_5 : decode cX2_hasPlanRow 5 = .ok (.aload_n 0, 1) := dk_o42 (by decide +kernel)
theorem dX2_hasPlanRow_6 : decode cX2_hasPlanRow 6 = .ok (.getfield 70, 3) := dk_o180 (by decide +kernel)
theorem dX2_hasPlanRow_9 : decode cX2_hasPlanRow 9 = .ok (.if_icmp .ge 7, 3) := dk_o162 (by decide +kernel)
theorem dX2_hasPlanRow_12 : decode cX2_hasPlanRow 12 = .ok (.iconst 1, 1) := dk_o4 (by decide +kernel)
theorem dX2_hasPlanRow_13 : decode cX2_hasPlanRow 13 = .ok (.goto 4, 3) := dk_o167 (by decide +kernel)
theorem dX2_hasPlanRow_16 : decode cX2_hasPlanRow 16 = .ok (.iconst 0, 1) := dk_o3 (by decide +kernel)
theorem dX2_hasPlanRow_17 : decode cX2_hasPlanRow 17 = .ok (.ireturn, 1) := dk_o172 (by decide +kernel)
theorem dX2_hasOrder_0 : decode cX2_hasOrder 0 = .ok (.iload_n 1, 1) := dk_o27 (by decide +kernel)
theorem dX2_hasOrder_1 : decode cX2_hasOrder 1 = .ok (.ifCond .lt 15, 3) := dk_o155 (by decide +kernel)
theorem dX2_hasOrder_4 : decode cX2_hasOrder 4 = .ok (.iload_n 1, 1) := dk_o27 (by decide +kernel)
theorem dX2_hasOrder_5 : decode cX2_hasOrder 5 = .ok (.aload_n 0, 1) := dk_o42 (by decide +kernel)
theorem dX2_hasOrder_6 : decode cX2_hasOrder 6 = .ok (.getfield 73, 3) := dk_o180 (by decide +kernel)
theorem dX2_hasOrder_9 : decode cX2_hasOrder 9 = .ok (.if_icmp .ge 7, 3) := dk_o162 (by decide +kernel)
theorem dX2_hasOrder_12 : decode cX2_hasOrder 12 = .ok (.iconst 1, 1) := dk_o4 (by decide +kernel)
theorem dX2_hasOrder_13 : decode cX2_hasOrder 13 = .ok (.goto 4, 3) := dk_o167 (by decide +kernel)
theorem dX2_hasOrder_16 : decode cX2_hasOrder 16 = .ok (.iconst 0, 1) := dk_o3 (by decide +kernel)
theorem dX2_hasOrder_17 : decode cX2_hasOrder 17 = .ok (.ireturn, 1) := dk_o172 (by decide +kernel)
theorem dX2_endOfPlaces_0 : decode cX2_endOfPlaces 0 = .ok (.bipush 8, 2) := dk_o16 (by decide +kernel)
theorem dX2_endOfPlaces_2 : decode cX2_endOfPlaces 2 = .ok (.aload_n 0, 1) := dk_o42 (by decide +kernel)
theorem dX2_endOfPlaces_3 : decode cX2_endOfPlaces 3 = .ok (.getfield 52, 3) := dk_o180 (by decide +kernel)
theorem dX2_endOfPlaces_6 : decode cX2_endOfPlaces 6 = .ok (.imul, 1) := dk_o104 (by decide +kernel)
theorem dX2_endOfPlaces_7 : decode cX2_endOfPlaces 7 = .ok (.bipush 8, 2) := dk_o16 (by decide +kernel)
theorem dX2_endOfPlaces_9 : decode cX2_endOfPlaces 9 = .ok (.iadd, 1) := dk_o96 (by decide +kernel)
theorem dX2_endOfPlaces_10 : decode cX2_endOfPlaces 10 = .ok (.ireturn, 1) := dk_o172 (by decide +kernel)
noncomputable def F_g_hasSeam (o : Nat) (S : dg_S) (gr : Nat) : Int32 := let cx : Int32 := zI S gr 0; (if cx ≤ (0 : Int32) then (0 : Int32) else (1 : Int32))
theorem F_g_hasSeam_p0 {o : Nat} {S : dg_S} {gr : Nat} {cx : Int32} (h0 : cx = zI S gr 0) (h1 : cx ≤ (0 : Int32)) : F_g_hasSeam o S gr = (0 : Int32) := by
  replace h0 := Eq.symm h0
  subst h0
  exact (Eq.trans (if_pos h1) rfl)
theorem F_g_hasSeam_p1 {o : Nat} {S : dg_S} {gr : Nat} {cx : Int32} (h0 : cx = zI S gr 0) (h1 : ¬ (cx ≤ (0 : Int32))) : F_g_hasSeam o S gr = (1 : Int32) := by
  replace h0 := Eq.symm h0
  subst h0
  exact (Eq.trans (if_neg h1) rfl)
set_option maxHeartbeats 8000000 in
set_option maxRecDepth 100000 in
theorem c_g_hasSeam (l : Launch) (g : Nat → ClassId) (D : va_G) (o : Nat) (S : dg_S) (gr : Nat) (hk_gr : rX gr) (cx : Int32) (f_cx : S.1 gr 0 = .int cx) (b_cx : 0 ≤ (cx).toInt ∧ (cx).toInt ≤ 7) (I : CX o S) (sz : Nat) : Met l yX2_hasSeam (bw yX2_hasSeam cX2_hasSeam 1 (some .boolean)) ({ frames := 1, cells := 0, slots := 0, locals := 32 } : Room) (dk_Pc g D (dg_w g shX o rfX S) sz [.ref (o + gr)]) (va_Qi (fun (r : Int32) S' => S' = S ∧ (0 ≤ (r).toInt ∧ (r).toInt ≤ 1) ∧ ((r).toInt = 1 ↔ 0 < (cx).toInt) ∧ (r = F_g_hasSeam o S gr) ∧ True) (dg_B g D shX o rfX) (dg_A o shX.length sz)) 0 0 (dg_A o shX.length sz) := by
  refine dg_met (cc := cX2_hasSeam) (maxL := 1) (ret := (some .boolean)) (dk_dq rfl) rfl (Nat.le_of_ble_eq_true rfl) ?_
  intro p e s m args below meth c A hAe harg hx hb hr hml hts hown hlocks hin hP K hS hA1 hA ST hsz ls hl
  rw [← hAe]
  have F : CallFix p m c cX2_hasSeam 1 s args (bw yX2_hasSeam cX2_hasSeam 1 (some .boolean)) RX2 := ⟨hx, hb, hml, hown, hts⟩
  have hl : lv_has ls 1 [(0, .ref (o + gr))] := hl
  have M_0 : dg_sm shX [] [] S S := dg_sm.rf
  refine lv_aload_n hx hb dX2_hasSeam_0 rfl (lv_at hl 0 rfl) ?_
  refine dg_get (C := RX2) (T := TX2) (N := 19) hx hb hts (fun w h => bw_mem (wU_X2 w h)) hown K hP (rX_0 gr hk_gr) rfl 0 (dk_dq rfl) (hts _ (bw_mem wB_0)) (fun _ h9 => h9) (v := .int cx) f_cx dX2_hasSeam_1 ?_
  refine lv_if_le (tgt := 11) hx hb dX2_hasSeam_4 (dk_dq rfl) (fun c_1 => ?_) (fun c_1 => ?_)
  · have jc_1 := dk_lec (k := 0) (by decide +kernel) c_1
    refine lv_iconst (v := 0) hx hb dX2_hasSeam_11 (by decide +kernel) ?_
    have hz_2 : (0 : Int32).toInt = 0 := by decide +kernel
    have hz_3 : (0 : Int32).toInt = 0 := by decide +kernel
    refine W.widen (k := 0) (n := 0) (Nat.le_of_ble_eq_true rfl) (Nat.le_of_ble_eq_true rfl) ?_
    exact dg_iret hx hb hr hlocks (by decide +kernel) hP hS ⟨rfl, (by decide +kernel), (by omega), (Eq.symm (F_g_hasSeam_p0 (zI_eq f_cx) c_1)), trivial⟩ dX2_hasSeam_12
  · have jc_1 := dk_nlec (k := 0) (by decide +kernel) c_1
    refine lv_iconst (v := 1) hx hb dX2_hasSeam_7 (by decide +kernel) ?_
    refine lv_goto (tgt := 12) hx hb dX2_hasSeam_8 (dk_dq rfl) ?_
    have hz_4 : (1 : Int32).toInt = 1 := by decide +kernel
    have hz_5 : (1 : Int32).toInt = 1 := by decide +kernel
    refine W.widen (k := 0) (n := 0) (Nat.le_of_ble_eq_true rfl) (Nat.le_of_ble_eq_true rfl) ?_
    exact dg_iret hx hb hr hlocks (by decide +kernel) hP hS ⟨rfl, (by decide +kernel), (by omega), (Eq.symm (F_g_hasSeam_p1 (zI_eq f_cx) c_1)), trivial⟩ dX2_hasSeam_12
noncomputable def F_g_hasMiner (o : Nat) (S : dg_S) (gr : Nat) (a1 : Int32) : Int32 := let cx : Int32 := zI S gr 6; (if a1 < (0 : Int32) then (0 : Int32) else (if cx ≤ a1 then (0 : Int32) else (1 : Int32)))
theorem F_g_hasMiner_p0 {o : Nat} {S : dg_S} {gr : Nat} {a1 : Int32} (h0 : a1 < (0 : Int32)) : F_g_hasMiner o S gr a1 = (0 : Int32) := (Eq.trans (if_pos h0) rfl)
theorem F_g_hasMiner_p1 {o : Nat} {S : dg_S} {gr : Nat} {a1 : Int32} {cx : Int32} (h0 : cx = zI S gr 6) (h1 : ¬ (a1 < (0 : Int32))) (h2 : cx ≤ a1) : F_g_hasMiner o S gr a1 = (0 : Int32) := by
  replace h0 := Eq.symm h0
  subst h0
  exact (Eq.trans (if_neg h1) (Eq.trans (if_pos h2) rfl))
theorem F_g_hasMiner_p2 {o : Nat} {S : dg_S} {gr : Nat} {a1 : Int32} {cx : Int32} (h0 : cx = zI S gr 6) (h1 : ¬ (a1 < (0 : Int32))) (h2 : ¬ (cx ≤ a1)) : F_g_hasMiner o S gr a1 = (1 : Int32) := by
  replace h0 := Eq.symm h0
  subst h0
  exact (Eq.trans (if_neg h1) (Eq.trans (if_neg h2) rfl))
set_option maxHeartbeats 8000000 in
set_option maxRecDepth 100000 in
theorem c_g_hasMiner (l : Launch) (g : Nat → ClassId) (D : va_G) (o : Nat) (S : dg_S) (gr : Nat) (hk_gr : rX gr) (a1 : Int32) (cx : Int32) (f_cx : S.1 gr 6 = .int cx) (b_cx : 0 ≤ (cx).toInt ∧ (cx).toInt ≤ 6) (I : CX o S) (sz : Nat) : Met l yX2_hasMiner (bw yX2_hasMiner cX2_hasMiner 2 (some .boolean)) ({ frames := 1, cells := 0, slots := 0, locals := 32 } : Room) (dk_Pc g D (dg_w g shX o rfX S) sz [.ref (o + gr), .int a1]) (va_Qi (fun (r : Int32) S' => S' = S ∧ (0 ≤ (r).toInt ∧ (r).toInt ≤ 1) ∧ ((r).toInt = 1 ↔ (0 ≤ (a1).toInt ∧ (a1).toInt < (cx).toInt)) ∧ (r = F_g_hasMiner o S gr a1) ∧ True) (dg_B g D shX o rfX) (dg_A o shX.length sz)) 0 0 (dg_A o shX.length sz) := by
  refine dg_met (cc := cX2_hasMiner) (maxL := 2) (ret := (some .boolean)) (dk_dq rfl) rfl (Nat.le_of_ble_eq_true rfl) ?_
  intro p e s m args below meth c A hAe harg hx hb hr hml hts hown hlocks hin hP K hS hA1 hA ST hsz ls hl
  rw [← hAe]
  have F : CallFix p m c cX2_hasMiner 2 s args (bw yX2_hasMiner cX2_hasMiner 2 (some .boolean)) RX2 := ⟨hx, hb, hml, hown, hts⟩
  have hl : lv_has ls 2 [(0, .ref (o + gr)), (1, .int a1)] := hl
  have M_0 : dg_sm shX [] [] S S := dg_sm.rf
  refine lv_iload_n hx hb dX2_hasMiner_0 rfl (lv_at hl 1 rfl) ?_
  refine lv_if_lt (tgt := 16) hx hb dX2_hasMiner_1 (dk_dq rfl) (fun c_1 => ?_) (fun c_1 => ?_)
  · have jc_1 := dk_ltc (k := 0) (by decide +kernel) c_1
    refine lv_iconst (v := 0) hx hb dX2_hasMiner_16 (by decide +kernel) ?_
    have hz_2 : (0 : Int32).toInt = 0 := by decide +kernel
    have hz_3 : (0 : Int32).toInt = 0 := by decide +kernel
    refine W.widen (k := 0) (n := 0) (Nat.le_of_ble_eq_true rfl) (Nat.le_of_ble_eq_true rfl) ?_
    exact dg_iret hx hb hr hlocks (by decide +kernel) hP hS ⟨rfl, (by decide +kernel), (by omega), (Eq.symm (F_g_hasMiner_p0 c_1)), trivial⟩ dX2_hasMiner_17
  · have jc_1 := dk_nltc (k := 0) (by decide +kernel) c_1
    refine lv_iload_n hx hb dX2_hasMiner_4 rfl (lv_at hl 1 rfl) ?_
    refine lv_aload_n hx hb dX2_hasMiner_5 rfl (lv_at hl 0 rfl) ?_
    refine dg_get (C := RX2) (T := TX2) (N := 19) hx hb hts (fun w h => bw_mem (wU_X2 w h)) hown K hP (rX_0 gr hk_gr) rfl 6 (dk_dq rfl) (hts _ (bw_mem wB_2)) (fun _ h9 => h9) (v := .int cx) f_cx dX2_hasMiner_6 ?_
    refine lv_icmp_ge (tgt := 16) hx hb dX2_hasMiner_9 (dk_dq rfl) (fun c_4 => ?_) (fun c_4 => ?_)
    · have hf_4 := dk_full a1
      have jc_4 := dk_gec (k := (cx).toInt) rfl c_4
      refine lv_iconst (v := 0) hx hb dX2_hasMiner_16 (by decide +kernel) ?_
      have hz_6 : (0 : Int32).toInt = 0 := by decide +kernel
      have hz_7 : (0 : Int32).toInt = 0 := by decide +kernel
      refine W.widen (k := 0) (n := 0) (Nat.le_of_ble_eq_true rfl) (Nat.le_of_ble_eq_true rfl) ?_
      exact dg_iret hx hb hr hlocks (by decide +kernel) hP hS ⟨rfl, (by decide +kernel), (by omega), (Eq.symm (F_g_hasMiner_p1 (zI_eq f_cx) c_1 c_4)), trivial⟩ dX2_hasMiner_17
    · have hf_7 := dk_full a1
      have jc_4 := dk_ngec (k := (cx).toInt) rfl c_4
      refine lv_iconst (v := 1) hx hb dX2_hasMiner_12 (by decide +kernel) ?_
      refine lv_goto (tgt := 17) hx hb dX2_hasMiner_13 (dk_dq rfl) ?_
      have hz_9 : (1 : Int32).toInt = 1 := by decide +kernel
      have hz_10 : (1 : Int32).toInt = 1 := by decide +kernel
      refine W.widen (k := 0) (n := 0) (Nat.le_of_ble_eq_true rfl) (Nat.le_of_ble_eq_true rfl) ?_
      exact dg_iret hx hb hr hlocks (by decide +kernel) hP hS ⟨rfl, (by decide +kernel), (by omega), (Eq.symm (F_g_hasMiner_p2 (zI_eq f_cx) c_1 c_4)), trivial⟩ dX2_hasMiner_17
noncomputable def F_g_hasPlanRow (o : Nat) (S : dg_S) (gr : Nat) (a1 : Int32) : Int32 := let cx : Int32 := zI S gr 8; (if a1 < (0 : Int32) then (0 : Int32) else (if cx ≤ a1 then (0 : Int32) else (1 : Int32)))
theorem F_g_hasPlanRow_p0 {o : Nat} {S : dg_S} {gr : Nat} {a1 : Int32} (h0 : a1 < (0 : Int32)) : F_g_hasPlanRow o S gr a1 = (0 : Int32) := (Eq.trans (if_pos h0) rfl)
theorem F_g_hasPlanRow_p1 {o : Nat} {S : dg_S} {gr : Nat} {a1 : Int32} {cx : Int32} (h0 : cx = zI S gr 8) (h1 : ¬ (a1 < (0 : Int32))) (h2 : cx ≤ a1) : F_g_hasPlanRow o S gr a1 = (0 : Int32) := by
  replace h0 := Eq.symm h0
  subst h0
  exact (Eq.trans (if_neg h1) (Eq.trans (if_pos h2) rfl))
theorem F_g_hasPlanRow_p2 {o : Nat} {S : dg_S} {gr : Nat} {a1 : Int32} {cx : Int32} (h0 : cx = zI S gr 8) (h1 : ¬ (a1 < (0 : Int32))) (h2 : ¬ (cx ≤ a1)) : F_g_hasPlanRow o S gr a1 = (1 : Int32) := by
  replace h0 := Eq.symm h0
  subst h0
  exact (Eq.trans (if_neg h1) (Eq.trans (if_neg h2) rfl))
set_option maxHeartbeats 8000000 in
set_option maxRecDepth 100000 in
theorem c_g_hasPlanRow (l : Launch) (g : Nat → ClassId) (D : va_G) (o : Nat) (S : dg_S) (gr : Nat) (hk_gr : rX gr) (a1 : Int32) (cx : Int32) (f_cx : S.1 gr 8 = .int cx) (b_cx : 0 ≤ (cx).toInt ∧ (cx).toInt ≤ 16) (I : CX o S) (sz : Nat) : Met l yX2_hasPlanRow (bw yX2_hasPlanRow cX2_hasPlanRow 2 (some .boolean)) ({ frames := 1, cells := 0, slots := 0, locals := 32 } : Room) (dk_Pc g D (dg_w g shX o rfX S) sz [.ref (o + gr), .int a1]) (va_Qi (fun (r : Int32) S' => S' = S ∧ (0 ≤ (r).toInt ∧ (r).toInt ≤ 1) ∧ ((r).toInt = 1 ↔ (0 ≤ (a1).toInt ∧ (a1).toInt < (cx).toInt)) ∧ (r = F_g_hasPlanRow o S gr a1) ∧ True) (dg_B g D shX o rfX) (dg_A o shX.length sz)) 0 0 (dg_A o shX.length sz) := by
  refine dg_met (cc := cX2_hasPlanRow) (maxL := 2) (ret := (some .boolean)) (dk_dq rfl) rfl (Nat.le_of_ble_eq_true rfl) ?_
  intro p e s m args below meth c A hAe harg hx hb hr hml hts hown hlocks hin hP K hS hA1 hA ST hsz ls hl
  rw [← hAe]
  have F : CallFix p m c cX2_hasPlanRow 2 s args (bw yX2_hasPlanRow cX2_hasPlanRow 2 (some .boolean)) RX2 := ⟨hx, hb, hml, hown, hts⟩
  have hl : lv_has ls 2 [(0, .ref (o + gr)), (1, .int a1)] := hl
  have M_0 : dg_sm shX [] [] S S := dg_sm.rf
  refine lv_iload_n hx hb dX2_hasPlanRow_0 rfl (lv_at hl 1 rfl) ?_
  refine lv_if_lt (tgt := 16) hx hb dX2_hasPlanRow_1 (dk_dq rfl) (fun c_1 => ?_) (fun c_1 => ?_)
  · have jc_1 := dk_ltc (k := 0) (by decide +kernel) c_1
    refine lv_iconst (v := 0) hx hb dX2_hasPlanRow_16 (by decide +kernel) ?_
    have hz_2 : (0 : Int32).toInt = 0 := by decide +kernel
    have hz_3 : (0 : Int32).toInt = 0 := by decide +kernel
    refine W.widen (k := 0) (n := 0) (Nat.le_of_ble_eq_true rfl) (Nat.le_of_ble_eq_true rfl) ?_
    exact dg_iret hx hb hr hlocks (by decide +kernel) hP hS ⟨rfl, (by decide +kernel), (by omega), (Eq.symm (F_g_hasPlanRow_p0 c_1)), trivial⟩ dX2_hasPlanRow_17
  · have jc_1 := dk_nltc (k := 0) (by decide +kernel) c_1
    refine lv_iload_n hx hb dX2_hasPlanRow_4 rfl (lv_at hl 1 rfl) ?_
    refine lv_aload_n hx hb dX2_hasPlanRow_5 rfl (lv_at hl 0 rfl) ?_
    refine dg_get (C := RX2) (T := TX2) (N := 19) hx hb hts (fun w h => bw_mem (wU_X2 w h)) hown K hP (rX_0 gr hk_gr) rfl 8 (dk_dq rfl) (hts _ (bw_mem wB_265)) (fun _ h9 => h9) (v := .int cx) f_cx dX2_hasPlanRow_6 ?_
    refine lv_icmp_ge (tgt := 16) hx hb dX2_hasPlanRow_9 (dk_dq rfl) (fun c_4 => ?_) (fun c_4 => ?_)
    · have hf_4 := dk_full a1
      have jc_4 := dk_gec (k := (cx).toInt) rfl c_4
      refine lv_iconst (v := 0) hx hb dX2_hasPlanRow_16 (by decide +kernel) ?_
      have hz_6 : (0 : Int32).toInt = 0 := by decide +kernel
      have hz_7 : (0 : Int32).toInt = 0 := by decide +kernel
      refine W.widen (k := 0) (n := 0) (Nat.le_of_ble_eq_true rfl) (Nat.le_of_ble_eq_true rfl) ?_
      exact dg_iret hx hb hr hlocks (by decide +kernel) hP hS ⟨rfl, (by decide +kernel), (by omega), (Eq.symm (F_g_hasPlanRow_p1 (zI_eq f_cx) c_1 c_4)), trivial⟩ dX2_hasPlanRow_17
    · have hf_7 := dk_full a1
      have jc_4 := dk_ngec (k := (cx).toInt) rfl c_4
      refine lv_iconst (v := 1) hx hb dX2_hasPlanRow_12 (by decide +kernel) ?_
      refine lv_goto (tgt := 17) hx hb dX2_hasPlanRow_13 (dk_dq rfl) ?_
      have hz_9 : (1 : Int32).toInt = 1 := by decide +kernel
      have hz_10 : (1 : Int32).toInt = 1 := by decide +kernel
      refine W.widen (k := 0) (n := 0) (Nat.le_of_ble_eq_true rfl) (Nat.le_of_ble_eq_true rfl) ?_
      exact dg_iret hx hb hr hlocks (by decide +kernel) hP hS ⟨rfl, (by decide +kernel), (by omega), (Eq.symm (F_g_hasPlanRow_p2 (zI_eq f_cx) c_1 c_4)), trivial⟩ dX2_hasPlanRow_17
noncomputable def F_g_hasOrder (o : Nat) (S : dg_S) (gr : Nat) (a1 : Int32) : Int32 := let cx : Int32 := zI S gr 11; (if a1 < (0 : Int32) then (0 : Int32) else (if cx ≤ a1 then (0 : Int32) else (1 : Int32)))
theorem F_g_hasOrder_p0 {o : Nat} {S : dg_S} {gr : Nat} {a1 : Int32} (h0 : a1 < (0 : Int32)) : F_g_hasOrder o S gr a1 = (0 : Int32) := (Eq.trans (if_pos h0) rfl)
theorem F_g_hasOrder_p1 {o : Nat} {S : dg_S} {gr : Nat} {a1 : Int32} {cx : Int32} (h0 : cx = zI S gr 11) (h1 : ¬ (a1 < (0 : Int32))) (h2 : cx ≤ a1) : F_g_hasOrder o S gr a1 = (0 : Int32) := by
  replace h0 := Eq.symm h0
  subst h0
  exact (Eq.trans (if_neg h1) (Eq.trans (if_pos h2) rfl))
theorem F_g_hasOrder_p2 {o : Nat} {S : dg_S} {gr : Nat} {a1 : Int32} {cx : Int32} (h0 : cx = zI S gr 11) (h1 : ¬ (a1 < (0 : Int32))) (h2 : ¬ (cx ≤ a1)) : F_g_hasOrder o S gr a1 = (1 : Int32) := by
  replace h0 := Eq.symm h0
  subst h0
  exact (Eq.trans (if_neg h1) (Eq.trans (if_neg h2) rfl))
set_option maxHeartbeats 8000000 in
set_option maxRecDepth 100000 in
theorem c_g_hasOrder (l : Launch) (g : Nat → ClassId) (D : va_G) (o : Nat) (S : dg_S) (gr : Nat) (hk_gr : rX gr) (a1 : Int32) (cx : Int32) (f_cx : S.1 gr 11 = .int cx) (b_cx : 0 ≤ (cx).toInt ∧ (cx).toInt ≤ 5) (I : CX o S) (sz : Nat) : Met l yX2_hasOrder (bw yX2_hasOrder cX2_hasOrder 2 (some .boolean)) ({ frames := 1, cells := 0, slots := 0, locals := 32 } : Room) (dk_Pc g D (dg_w g shX o rfX S) sz [.ref (o + gr), .int a1]) (va_Qi (fun (r : Int32) S' => S' = S ∧ (0 ≤ (r).toInt ∧ (r).toInt ≤ 1) ∧ ((r).toInt = 1 ↔ (0 ≤ (a1).toInt ∧ (a1).toInt < (cx).toInt)) ∧ (r = F_g_hasOrder o S gr a1) ∧ True) (dg_B g D shX o rfX) (dg_A o shX.length sz)) 0 0 (dg_A o shX.length sz) := by
  refine dg_met (cc := cX2_hasOrder) (maxL := 2) (ret := (some .boolean)) (dk_dq rfl) rfl (Nat.le_of_ble_eq_true rfl) ?_
  intro p e s m args below meth c A hAe harg hx hb hr hml hts hown hlocks hin hP K hS hA1 hA ST hsz ls hl
  rw [← hAe]
  have F : CallFix p m c cX2_hasOrder 2 s args (bw yX2_hasOrder cX2_hasOrder 2 (some .boolean)) RX2 := ⟨hx, hb, hml, hown, hts⟩
  have hl : lv_has ls 2 [(0, .ref (o + gr)), (1, .int a1)] := hl
  have M_0 : dg_sm shX [] [] S S := dg_sm.rf
  refine lv_iload_n hx hb dX2_hasOrder_0 rfl (lv_at hl 1 rfl) ?_
  refine lv_if_lt (tgt := 16) hx hb dX2_hasOrder_1 (dk_dq rfl) (fun c_1 => ?_) (fun c_1 => ?_)
  · have jc_1 := dk_ltc (k := 0) (by decide +kernel) c_1
    refine lv_iconst (v := 0) hx hb dX2_hasOrder_16 (by decide +kernel) ?_
    have hz_2 : (0 : Int32).toInt = 0 := by decide +kernel
    have hz_3 : (0 : Int32).toInt = 0 := by decide +kernel
    refine W.widen (k := 0) (n := 0) (Nat.le_of_ble_eq_true rfl) (Nat.le_of_ble_eq_true rfl) ?_
    exact dg_iret hx hb hr hlocks (by decide +kernel) hP hS ⟨rfl, (by decide +kernel), (by omega), (Eq.symm (F_g_hasOrder_p0 c_1)), trivial⟩ dX2_hasOrder_17
  · have jc_1 := dk_nltc (k := 0) (by decide +kernel) c_1
    refine lv_iload_n hx hb dX2_hasOrder_4 rfl (lv_at hl 1 rfl) ?_
    refine lv_aload_n hx hb dX2_hasOrder_5 rfl (lv_at hl 0 rfl) ?_
    refine dg_get (C := RX2) (T := TX2) (N := 19) hx hb hts (fun w h => bw_mem (wU_X2 w h)) hown K hP (rX_0 gr hk_gr) rfl 11 (dk_dq rfl) (hts _ (bw_mem wB_4)) (fun _ h9 => h9) (v := .int cx) f_cx dX2_hasOrder_6 ?_
    refine lv_icmp_ge (tgt := 16) hx hb dX2_hasOrder_9 (dk_dq rfl) (fun c_4 => ?_) (fun c_4 => ?_)
    · have hf_4 := dk_full a1
      have jc_4 := dk_gec (k := (cx).toInt) rfl c_4
      refine lv_iconst (v := 0) hx hb dX2_hasOrder_16 (by decide +kernel) ?_
      have hz_6 : (0 : Int32).toInt = 0 := by decide +kernel
      have hz_7 : (0 : Int32).toInt = 0 := by decide +kernel
      refine W.widen (k := 0) (n := 0) (Nat.le_of_ble_eq_true rfl) (Nat.le_of_ble_eq_true rfl) ?_
      exact dg_iret hx hb hr hlocks (by decide +kernel) hP hS ⟨rfl, (by decide +kernel), (by omega), (Eq.symm (F_g_hasOrder_p1 (zI_eq f_cx) c_1 c_4)), trivial⟩ dX2_hasOrder_17
    · have hf_7 := dk_full a1
      have jc_4 := dk_ngec (k := (cx).toInt) rfl c_4
      refine lv_iconst (v := 1) hx hb dX2_hasOrder_12 (by decide +kernel) ?_
      refine lv_goto (tgt := 17) hx hb dX2_hasOrder_13 (dk_dq rfl) ?_
      have hz_9 : (1 : Int32).toInt = 1 := by decide +kernel
      have hz_10 : (1 : Int32).toInt = 1 := by decide +kernel
      refine W.widen (k := 0) (n := 0) (Nat.le_of_ble_eq_true rfl) (Nat.le_of_ble_eq_true rfl) ?_
      exact dg_iret hx hb hr hlocks (by decide +kernel) hP hS ⟨rfl, (by decide +kernel), (by omega), (Eq.symm (F_g_hasOrder_p2 (zI_eq f_cx) c_1 c_4)), trivial⟩ dX2_hasOrder_17
noncomputable def F_g_placeOf (o : Nat) (S : dg_S) (gr : Nat) (a1 : Int32) (a2 : Int32) : Int32 := let cx : Int32 := zI S gr 0; let ry : Int32 := zI S gr 1; (if a1 < (0 : Int32) then (-1 : Int32) else (if cx ≤ a1 then (-1 : Int32) else (if a2 < (0 : Int32) then (-1 : Int32) else (if a2 < ry then let x_14 : Int32 := (8 : Int32) * a2; let x_15 : Int32 := x_14 + a1; let x_16 : Int32 := x_15 + (8 : Int32); x_16 else (-1 : Int32)))))
theorem F_g_placeOf_p0 {o : Nat} {S : dg_S} {gr : Nat} {a1 : Int32} {a2 : Int32} (h0 : a1 < (0 : Int32)) : F_g_placeOf o S gr a1 a2 = (-1 : Int32) := (Eq.trans (if_pos h0) rfl)
theorem F_g_placeOf_p1 {o : Nat} {S : dg_S} {gr : Nat} {a1 : Int32} {a2 : Int32} {cx : Int32} (h0 : cx = zI S gr 0) (h1 : ¬ (a1 < (0 : Int32))) (h2 : cx ≤ a1) : F_g_placeOf o S gr a1 a2 = (-1 : Int32) := by
  replace h0 := Eq.symm h0
  subst h0
  exact (Eq.trans (if_neg h1) (Eq.trans (if_pos h2) rfl))
theorem F_g_placeOf_p2 {o : Nat} {S : dg_S} {gr : Nat} {a1 : Int32} {a2 : Int32} {cx : Int32} (h0 : cx = zI S gr 0) (h1 : ¬ (a1 < (0 : Int32))) (h2 : ¬ (cx ≤ a1)) (h3 : a2 < (0 : Int32)) : F_g_placeOf o S gr a1 a2 = (-1 : Int32) := by
  replace h0 := Eq.symm h0
  subst h0
  exact (Eq.trans (if_neg h1) (Eq.trans (if_neg h2) (Eq.trans (if_pos h3) rfl)))
theorem F_g_placeOf_p3 {o : Nat} {S : dg_S} {gr : Nat} {a1 : Int32} {a2 : Int32} {x_16 : Int32} {cx : Int32} {ry : Int32} {x_14 : Int32} {x_15 : Int32} (h0 : cx = zI S gr 0) (h1 : ry = zI S gr 1) (h2 : ¬ (a1 < (0 : Int32))) (h3 : ¬ (cx ≤ a1)) (h4 : ¬ (a2 < (0 : Int32))) (h5 : a2 < ry) (h6 : x_14 = (8 : Int32) * a2) (h7 : x_15 = x_14 + a1) (h8 : x_16 = x_15 + (8 : Int32)) : F_g_placeOf o S gr a1 a2 = x_16 := by
  replace h0 := Eq.symm h0
  subst h0
  replace h1 := Eq.symm h1
  subst h1
  replace h6 := Eq.symm h6
  subst h6
  replace h7 := Eq.symm h7
  subst h7
  replace h8 := Eq.symm h8
  subst h8
  exact (Eq.trans (if_neg h2) (Eq.trans (if_neg h3) (Eq.trans (if_neg h4) (Eq.trans (if_pos h5) rfl))))
theorem F_g_placeOf_p4 {o : Nat} {S : dg_S} {gr : Nat} {a1 : Int32} {a2 : Int32} {cx : Int32} {ry : Int32} (h0 : cx = zI S gr 0) (h1 : ry = zI S gr 1) (h2 : ¬ (a1 < (0 : Int32))) (h3 : ¬ (cx ≤ a1)) (h4 : ¬ (a2 < (0 : Int32))) (h5 : ¬ (a2 < ry)) : F_g_placeOf o S gr a1 a2 = (-1 : Int32) := by
  replace h0 := Eq.symm h0
  subst h0
  replace h1 := Eq.symm h1
  subst h1
  exact (Eq.trans (if_neg h2) (Eq.trans (if_neg h3) (Eq.trans (if_neg h4) (Eq.trans (if_neg h5) rfl))))
set_option maxHeartbeats 8000000 in
set_option maxRecDepth 100000 in
theorem c_g_placeOfR (l : Launch) (g : Nat → ClassId) (D : va_G) (o : Nat) (S : dg_S) (gr : Nat) (hk_gr : rX gr) (a1 : Int32) (a2 : Int32) (cx : Int32) (f_cx : S.1 gr 0 = .int cx) (b_cx : 0 ≤ (cx).toInt ∧ (cx).toInt ≤ 7) (ry : Int32) (f_ry : S.1 gr 1 = .int ry) (b_ry : 0 ≤ (ry).toInt ∧ (ry).toInt ≤ 7) (I : CX o S) (sz : Nat) : Met l yX2_placeOf (bw yX2_placeOf cX2_placeOf 3 (some .int)) ({ frames := 1, cells := 0, slots := 0, locals := 32 } : Room) (dk_Pc g D (dg_w g shX o rfX S) sz [.ref (o + gr), .int a1, .int a2]) (va_Qi (fun (r : Int32) S' => S' = S ∧ (((-1) ≤ (r).toInt ∧ (r).toInt ≤ 62) ∧ ((r).toInt ≤ (-1) ∨ 8 ≤ (r).toInt)) ∧ ((0 ≤ (a1).toInt ∧ (a1).toInt < (cx).toInt ∧ 0 ≤ (a2).toInt ∧ (a2).toInt < (ry).toInt) → 8 ≤ (r).toInt) ∧ (r = F_g_placeOf o S gr a1 a2) ∧ True) (dg_B g D shX o rfX) (dg_A o shX.length sz)) 0 0 (dg_A o shX.length sz) := by
  refine dg_met (cc := cX2_placeOf) (maxL := 3) (ret := (some .int)) (dk_dq rfl) rfl (Nat.le_of_ble_eq_true rfl) ?_
  intro p e s m args below meth c A hAe harg hx hb hr hml hts hown hlocks hin hP K hS hA1 hA ST hsz ls hl
  rw [← hAe]
  have F : CallFix p m c cX2_placeOf 3 s args (bw yX2_placeOf cX2_placeOf 3 (some .int)) RX2 := ⟨hx, hb, hml, hown, hts⟩
  have hl : lv_has ls 3 [(0, .ref (o + gr)), (1, .int a1), (2, .int a2)] := hl
  have M_0 : dg_sm shX [] [] S S := dg_sm.rf
  refine lv_iload_n hx hb dX2_placeOf_0 rfl (lv_at hl 1 rfl) ?_
  refine lv_if_lt (tgt := 24) hx hb dX2_placeOf_1 (dk_dq rfl) (fun c_1 => ?_) (fun c_1 => ?_)
  · have jc_1 := dk_ltc (k := 0) (by decide +kernel) c_1
    refine lv_iconst (v := (-1)) hx hb dX2_placeOf_24 (by decide +kernel) ?_
    have hz_2 : (-1 : Int32).toInt = (-1) := by decide +kernel
    have hz_3 : (-1 : Int32).toInt = (-1) := by decide +kernel
    refine W.widen (k := 0) (n := 0) (Nat.le_of_ble_eq_true rfl) (Nat.le_of_ble_eq_true rfl) ?_
    exact dg_iret hx hb hr hlocks rfl hP hS ⟨rfl, (by decide +kernel), (by omega), (Eq.symm (F_g_placeOf_p0 c_1)), trivial⟩ dX2_placeOf_25
  · as_aux_lemma =>
      have jc_1 := dk_nltc (k := 0) (by decide +kernel) c_1
      refine lv_iload_n hx hb dX2_placeOf_4 rfl (lv_at hl 1 rfl) ?_
      refine lv_aload_n hx hb dX2_placeOf_5 rfl (lv_at hl 0 rfl) ?_
      refine dg_get (C := RX2) (T := TX2) (N := 19) hx hb hts (fun w h => bw_mem (wU_X2 w h)) hown K hP (rX_0 gr hk_gr) rfl 0 (dk_dq rfl) (hts _ (bw_mem wB_0)) (fun _ h9 => h9) (v := .int cx) f_cx dX2_placeOf_6 ?_
      refine lv_icmp_ge (tgt := 24) hx hb dX2_placeOf_9 (dk_dq rfl) (fun c_4 => ?_) (fun c_4 => ?_)
      · have hf_4 := dk_full a1
        have jc_4 := dk_gec (k := (cx).toInt) rfl c_4
        refine lv_iconst (v := (-1)) hx hb dX2_placeOf_24 (by decide +kernel) ?_
        have hz_6 : (-1 : Int32).toInt = (-1) := by decide +kernel
        have hz_7 : (-1 : Int32).toInt = (-1) := by decide +kernel
        refine W.widen (k := 0) (n := 0) (Nat.le_of_ble_eq_true rfl) (Nat.le_of_ble_eq_true rfl) ?_
        exact dg_iret hx hb hr hlocks rfl hP hS ⟨rfl, (by decide +kernel), (by omega), (Eq.symm (F_g_placeOf_p1 (zI_eq f_cx) c_1 c_4)), trivial⟩ dX2_placeOf_25
      · as_aux_lemma =>
          have hf_7 := dk_full a1
          have jc_4 := dk_ngec (k := (cx).toInt) rfl c_4
          refine lv_iload_n hx hb dX2_placeOf_12 rfl (lv_at hl 2 rfl) ?_
          refine lv_if_lt (tgt := 24) hx hb dX2_placeOf_13 (dk_dq rfl) (fun c_9 => ?_) (fun c_9 => ?_)
          · have jc_9 := dk_ltc (k := 0) (by decide +kernel) c_9
            refine lv_iconst (v := (-1)) hx hb dX2_placeOf_24 (by decide +kernel) ?_
            have hz_10 : (-1 : Int32).toInt = (-1) := by decide +kernel
            have hz_11 : (-1 : Int32).toInt = (-1) := by decide +kernel
            refine W.widen (k := 0) (n := 0) (Nat.le_of_ble_eq_true rfl) (Nat.le_of_ble_eq_true rfl) ?_
            exact dg_iret hx hb hr hlocks rfl hP hS ⟨rfl, (by decide +kernel), (by omega), (Eq.symm (F_g_placeOf_p2 (zI_eq f_cx) c_1 c_4 c_9)), trivial⟩ dX2_placeOf_25
          · as_aux_lemma =>
              have jc_9 := dk_nltc (k := 0) (by decide +kernel) c_9
              refine lv_iload_n hx hb dX2_placeOf_16 rfl (lv_at hl 2 rfl) ?_
              refine lv_aload_n hx hb dX2_placeOf_17 rfl (lv_at hl 0 rfl) ?_
              refine dg_get (C := RX2) (T := TX2) (N := 19) hx hb hts (fun w h => bw_mem (wU_X2 w h)) hown K hP (rX_0 gr hk_gr) rfl 1 (dk_dq rfl) (hts _ (bw_mem wB_1)) (fun _ h9 => h9) (v := .int ry) f_ry dX2_placeOf_18 ?_
              refine lv_icmp_lt (tgt := 26) hx hb dX2_placeOf_21 (dk_dq rfl) (fun c_12 => ?_) (fun c_12 => ?_)
              · as_aux_lemma =>
                  have hf_12 := dk_full a2
                  have jc_12 := dk_ltc (k := (ry).toInt) rfl c_12
                  refine lv_bipush (v := 8) hx hb dX2_placeOf_26 (by decide +kernel) ?_
                  refine lv_iload_n hx hb dX2_placeOf_28 rfl (lv_at hl 2 rfl) ?_
                  refine lv_imul hx hb dX2_placeOf_29 ?_
                  refine lv_topi (fun x_14 ex_14 => ?_)
                  have jx_14 : (x_14).toInt = 8 * (a2).toInt := by rw [ex_14]; exact dk_mulT2 (by decide +kernel) rfl (by omega)
                  refine lv_iload_n hx hb dX2_placeOf_30 rfl (lv_at hl 1 rfl) ?_
                  refine lv_iadd hx hb dX2_placeOf_31 ?_
                  refine lv_topi (fun x_15 ex_15 => ?_)
                  have jx_15 : (x_15).toInt = (x_14).toInt + (a1).toInt := by rw [ex_15]; exact dk_addT2 rfl rfl (by omega)
                  refine lv_bipush (v := 8) hx hb dX2_placeOf_32 (by decide +kernel) ?_
                  refine lv_iadd hx hb dX2_placeOf_34 ?_
                  refine lv_topi (fun x_16 ex_16 => ?_)
                  have jx_16 : (x_16).toInt = (x_15).toInt + 8 := by rw [ex_16]; exact dk_addT2 rfl (by decide +kernel) (by omega)
                  refine W.widen (k := 0) (n := 0) (Nat.le_of_ble_eq_true rfl) (Nat.le_of_ble_eq_true rfl) ?_
                  exact dg_iret hx hb hr hlocks rfl hP hS ⟨rfl, (by omega), (by omega), (Eq.symm (F_g_placeOf_p3 (zI_eq f_cx) (zI_eq f_ry) c_1 c_4 c_9 c_12 ex_14 ex_15 ex_16)), trivial⟩ dX2_placeOf_35
              · have hf_16 := dk_full a2
                have jc_12 := dk_nltc (k := (ry).toInt) rfl c_12
                refine lv_iconst (v := (-1)) hx hb dX2_placeOf_24 (by decide +kernel) ?_
                have hz_18 : (-1 : Int32).toInt = (-1) := by decide +kernel
                have hz_19 : (-1 : Int32).toInt = (-1) := by decide +kernel
                refine W.widen (k := 0) (n := 0) (Nat.le_of_ble_eq_true rfl) (Nat.le_of_ble_eq_true rfl) ?_
                exact dg_iret hx hb hr hlocks rfl hP hS ⟨rfl, (by decide +kernel), (by omega), (Eq.symm (F_g_placeOf_p4 (zI_eq f_cx) (zI_eq f_ry) c_1 c_4 c_9 c_12)), trivial⟩ dX2_placeOf_25
noncomputable def F_g_endOfPlaces (o : Nat) (S : dg_S) (gr : Nat) : Int32 := let x_1 : Int32 := zI S gr 1; let x_2 : Int32 := (8 : Int32) * x_1; let x_3 : Int32 := x_2 + (8 : Int32); x_3
theorem F_g_endOfPlaces_p0 {o : Nat} {S : dg_S} {gr : Nat} {x_3 : Int32} {x_1 : Int32} {x_2 : Int32} (h0 : x_1 = zI S gr 1) (h1 : x_2 = (8 : Int32) * x_1) (h2 : x_3 = x_2 + (8 : Int32)) : F_g_endOfPlaces o S gr = x_3 := by
  replace h0 := Eq.symm h0
  subst h0
  replace h1 := Eq.symm h1
  subst h1
  replace h2 := Eq.symm h2
  subst h2
  exact rfl
set_option maxHeartbeats 8000000 in
set_option maxRecDepth 100000 in
theorem c_g_endOfPlaces (l : Launch) (g : Nat → ClassId) (D : va_G) (o : Nat) (S : dg_S) (gr : Nat) (hk_gr : rX gr) (I : CX o S) (sz : Nat) : Met l yX2_endOfPlaces (bw yX2_endOfPlaces cX2_endOfPlaces 1 (some .int)) ({ frames := 1, cells := 0, slots := 0, locals := 32 } : Room) (dk_Pc g D (dg_w g shX o rfX S) sz [.ref (o + gr)]) (va_Qi (fun (r : Int32) S' => S' = S ∧ (8 ≤ (r).toInt ∧ (r).toInt ≤ 64) ∧ (r = F_g_endOfPlaces o S gr) ∧ True) (dg_B g D shX o rfX) (dg_A o shX.length sz)) 0 0 (dg_A o shX.length sz) := by
  refine dg_met (cc := cX2_endOfPlaces) (maxL := 1) (ret := (some .int)) (dk_dq rfl) rfl (Nat.le_of_ble_eq_true rfl) ?_
  intro p e s m args below meth c A hAe harg hx hb hr hml hts hown hlocks hin hP K hS hA1 hA ST hsz ls hl
  rw [← hAe]
  have F : CallFix p m c cX2_endOfPlaces 1 s args (bw yX2_endOfPlaces cX2_endOfPlaces 1 (some .int)) RX2 := ⟨hx, hb, hml, hown, hts⟩
  have hl : lv_has ls 1 [(0, .ref (o + gr))] := hl
  have M_0 : dg_sm shX [] [] S S := dg_sm.rf
  refine lv_bipush (v := 8) hx hb dX2_endOfPlaces_0 (by decide +kernel) ?_
  refine lv_aload_n hx hb dX2_endOfPlaces_2 rfl (lv_at hl 0 rfl) ?_
  obtain ⟨x_1, f_x_1, b_x_1⟩ := dg_I.int (i := gr) (k := 1) (lo := 0) (hi := 7) I (rX_0 gr hk_gr) (by decide +kernel)
  refine dg_get (C := RX2) (T := TX2) (N := 19) hx hb hts (fun w h => bw_mem (wU_X2 w h)) hown K hP (rX_0 gr hk_gr) rfl 1 (dk_dq rfl) (hts _ (bw_mem wB_1)) (fun _ h9 => h9) (v := .int x_1) f_x_1 dX2_endOfPlaces_3 ?_
  refine lv_imul hx hb dX2_endOfPlaces_6 ?_
  refine lv_topi (fun x_2 ex_2 => ?_)
  have jx_2 : (x_2).toInt = 8 * (x_1).toInt := by rw [ex_2]; exact dk_mulT2 (by decide +kernel) rfl (by omega)
  refine lv_bipush (v := 8) hx hb dX2_endOfPlaces_7 (by decide +kernel) ?_
  refine lv_iadd hx hb dX2_endOfPlaces_9 ?_
  refine lv_topi (fun x_3 ex_3 => ?_)
  have jx_3 : (x_3).toInt = (x_2).toInt + 8 := by rw [ex_3]; exact dk_addT2 rfl (by decide +kernel) (by omega)
  refine W.widen (k := 0) (n := 0) (Nat.le_of_ble_eq_true rfl) (Nat.le_of_ble_eq_true rfl) ?_
  exact dg_iret hx hb hr hlocks rfl hP hS ⟨rfl, (by omega), (Eq.symm (F_g_endOfPlaces_p0 (zI_eq f_x_1) ex_2 ex_3)), trivial⟩ dX2_endOfPlaces_10
noncomputable def F_g_hasRule (o : Nat) (S : dg_S) (gr : Nat) (a1 : Int32) : Int32 := let x_2 : Int32 := S.2.1 (gr + 11) (a1 : Int32).toNatClampNeg; let x_4 : Int32 := S.2.1 (gr + 10) (a1 : Int32).toNatClampNeg; (if x_2 ≤ x_4 then (0 : Int32) else (1 : Int32))
theorem F_g_hasRule_p0 {o : Nat} {S : dg_S} {gr : Nat} {a1 : Int32} {x_2 : Int32} {x_4 : Int32} (h0 : x_2 = S.2.1 (gr + 11) (a1 : Int32).toNatClampNeg) (h1 : x_4 = S.2.1 (gr + 10) (a1 : Int32).toNatClampNeg) (h2 : x_2 ≤ x_4) : F_g_hasRule o S gr a1 = (0 : Int32) := by
  replace h0 := Eq.symm h0
  subst h0
  replace h1 := Eq.symm h1
  subst h1
  exact (Eq.trans (if_pos h2) rfl)
theorem F_g_hasRule_p1 {o : Nat} {S : dg_S} {gr : Nat} {a1 : Int32} {x_2 : Int32} {x_4 : Int32} (h0 : x_2 = S.2.1 (gr + 11) (a1 : Int32).toNatClampNeg) (h1 : x_4 = S.2.1 (gr + 10) (a1 : Int32).toNatClampNeg) (h2 : ¬ (x_2 ≤ x_4)) : F_g_hasRule o S gr a1 = (1 : Int32) := by
  replace h0 := Eq.symm h0
  subst h0
  replace h1 := Eq.symm h1
  subst h1
  exact (Eq.trans (if_neg h2) rfl)
set_option maxHeartbeats 8000000 in
set_option maxRecDepth 100000 in
theorem c_g_hasRuleR (l : Launch) (g : Nat → ClassId) (D : va_G) (o : Nat) (S : dg_S) (gr : Nat) (hk_gr : rX gr) (a1 : Int32) (b_a1 : 0 ≤ (a1).toInt ∧ (a1).toInt ≤ 2) (I : CX o S) (sz : Nat) : Met l yX2_hasRule (bw yX2_hasRule cX2_hasRule 2 (some .boolean)) ({ frames := 1, cells := 0, slots := 0, locals := 32 } : Room) (dk_Pc g D (dg_w g shX o rfX S) sz [.ref (o + gr), .int a1]) (va_Qi (fun (r : Int32) S' => S' = S ∧ (0 ≤ (r).toInt ∧ (r).toInt ≤ 1) ∧ (r = F_g_hasRule o S gr a1) ∧ True) (dg_B g D shX o rfX) (dg_A o shX.length sz)) 0 0 (dg_A o shX.length sz) := by
  refine dg_met (cc := cX2_hasRule) (maxL := 2) (ret := (some .boolean)) (dk_dq rfl) rfl (Nat.le_of_ble_eq_true rfl) ?_
  intro p e s m args below meth c A hAe harg hx hb hr hml hts hown hlocks hin hP K hS hA1 hA ST hsz ls hl
  rw [← hAe]
  have F : CallFix p m c cX2_hasRule 2 s args (bw yX2_hasRule cX2_hasRule 2 (some .boolean)) RX2 := ⟨hx, hb, hml, hown, hts⟩
  have hl : lv_has ls 2 [(0, .ref (o + gr)), (1, .int a1)] := hl
  have M_0 : dg_sm shX [] [] S S := dg_sm.rf
  refine lv_aload_n hx hb dX2_hasRule_0 rfl (lv_at hl 0 rfl) ?_
  refine dg_get (C := RX2) (T := TX2) (N := 19) hx hb hts (fun w h => bw_mem (wU_X2 w h)) hown K hP (rX_0 gr hk_gr) rfl 18 (dk_dq rfl) (hts _ (bw_mem wB_11)) (fun _ h9 => h9) (v := .ref (o + (gr + 11))) (show S.1 gr 18 = .ref (o + (gr + 11)) from dg_I.rel (d := 11) I (rX_0 gr hk_gr) (by decide +kernel)) dX2_hasRule_1 ?_
  refine lv_iload_n hx hb dX2_hasRule_4 rfl (lv_at hl 1 rfl) ?_
  have hin_1 : vp_in a1 3 := (dk_inv2 (by omega))
  refine dg_iald hx hb K hP (rX_11 gr hk_gr) hin_1 dX2_hasRule_5 (fun x_2 ex_2 => ?_)
  have b_x_2 := dk_all_at (dg_I.row (lo := 0) (hi := 1600) I (rX_11 gr hk_gr) (by decide +kernel)) hin_1 ex_2
  refine lv_aload_n hx hb dX2_hasRule_6 rfl (lv_at hl 0 rfl) ?_
  refine dg_get (C := RX2) (T := TX2) (N := 19) hx hb hts (fun w h => bw_mem (wU_X2 w h)) hown K hP (rX_0 gr hk_gr) rfl 17 (dk_dq rfl) (hts _ (bw_mem wB_12)) (fun _ h9 => h9) (v := .ref (o + (gr + 10))) (show S.1 gr 17 = .ref (o + (gr + 10)) from dg_I.rel (d := 10) I (rX_0 gr hk_gr) (by decide +kernel)) dX2_hasRule_7 ?_
  refine lv_iload_n hx hb dX2_hasRule_10 rfl (lv_at hl 1 rfl) ?_
  have hin_3 : vp_in a1 3 := (dk_inv2 (by omega))
  refine dg_iald hx hb K hP (rX_10 gr hk_gr) hin_3 dX2_hasRule_11 (fun x_4 ex_4 => ?_)
  have b_x_4 := dk_all_at (dg_I.row (lo := 0) (hi := 1600) I (rX_10 gr hk_gr) (by decide +kernel)) hin_3 ex_4
  refine lv_icmp_le (tgt := 19) hx hb dX2_hasRule_12 (dk_dq rfl) (fun c_5 => ?_) (fun c_5 => ?_)
  · have jc_5 := dk_lec (k := (x_4).toInt) rfl c_5
    refine lv_iconst (v := 0) hx hb dX2_hasRule_19 (by decide +kernel) ?_
    have hz_6 : (0 : Int32).toInt = 0 := by decide +kernel
    refine W.widen (k := 0) (n := 0) (Nat.le_of_ble_eq_true rfl) (Nat.le_of_ble_eq_true rfl) ?_
    exact dg_iret hx hb hr hlocks (by decide +kernel) hP hS ⟨rfl, (by decide +kernel), (Eq.symm (F_g_hasRule_p0 (Eq.symm ex_2.symm) (Eq.symm ex_4.symm) c_5)), trivial⟩ dX2_hasRule_20
  · have jc_5 := dk_nlec (k := (x_4).toInt) rfl c_5
    refine lv_iconst (v := 1) hx hb dX2_hasRule_15 (by decide +kernel) ?_
    refine lv_goto (tgt := 20) hx hb dX2_hasRule_16 (dk_dq rfl) ?_
    have hz_7 : (1 : Int32).toInt = 1 := by decide +kernel
    refine W.widen (k := 0) (n := 0) (Nat.le_of_ble_eq_true rfl) (Nat.le_of_ble_eq_true rfl) ?_
    exact dg_iret hx hb hr hlocks (by decide +kernel) hP hS ⟨rfl, (by decide +kernel), (Eq.symm (F_g_hasRule_p1 (Eq.symm ex_2.symm) (Eq.symm ex_4.symm) c_5)), trivial⟩ dX2_hasRule_20
noncomputable def F_g_minerNamed_B1 (S : dg_S) (gr : Nat) (a1 : Int32) : Int32 → (Int32) ⊕ (Int32) := fun w9 => match w9 with | x_62 => let x_64 : Int32 := zI S gr 6; (if x_64 ≤ x_62 then (Sum.inr ((-1 : Int32))) else let x_68 : Int32 := S.2.1 (gr + 2) (x_62 : Int32).toNatClampNeg; (if x_68 = a1 then (Sum.inr (x_62)) else let x_72 : Int32 := x_62 + 1; (Sum.inl x_72)))
noncomputable def F_g_minerNamed (o : Nat) (S : dg_S) (gr : Nat) (a1 : Int32) : Int32 := (lp (F_g_minerNamed_B1 S gr a1) (0 : Int32) ((7 - ((0 : Int32)).toInt).toNat + 1) (0 : Int32))
theorem F_g_minerNamed_p0 {S : dg_S} {gr : Nat} {a1 : Int32} {x_62 : Int32} {x_64 : Int32} (h0 : x_64 = zI S gr 6) (h1 : x_64 ≤ x_62) : (F_g_minerNamed_B1 S gr a1) x_62 = Sum.inr ((-1 : Int32)) := by
  replace h0 := Eq.symm h0
  subst h0
  exact (Eq.trans (if_pos h1) rfl)
theorem F_g_minerNamed_p1 {S : dg_S} {gr : Nat} {a1 : Int32} {x_62 : Int32} {x_72 : Int32} {x_64 : Int32} {x_68 : Int32} (h0 : x_64 = zI S gr 6) (h1 : ¬ (x_64 ≤ x_62)) (h2 : x_68 = S.2.1 (gr + 2) (x_62 : Int32).toNatClampNeg) (h3 : ¬ (x_68 = a1)) (h4 : x_72 = x_62 + 1) : (F_g_minerNamed_B1 S gr a1) x_62 = Sum.inl x_72 := by
  replace h0 := Eq.symm h0
  subst h0
  replace h2 := Eq.symm h2
  subst h2
  replace h4 := Eq.symm h4
  subst h4
  exact (Eq.trans (if_neg h1) (Eq.trans (if_neg h3) rfl))
theorem F_g_minerNamed_p2 {S : dg_S} {gr : Nat} {a1 : Int32} {x_62 : Int32} {x_64 : Int32} {x_68 : Int32} (h0 : x_64 = zI S gr 6) (h1 : ¬ (x_64 ≤ x_62)) (h2 : x_68 = S.2.1 (gr + 2) (x_62 : Int32).toNatClampNeg) (h3 : x_68 = a1) : (F_g_minerNamed_B1 S gr a1) x_62 = Sum.inr (x_62) := by
  replace h0 := Eq.symm h0
  subst h0
  replace h2 := Eq.symm h2
  subst h2
  exact (Eq.trans (if_neg h1) (Eq.trans (if_pos h3) rfl))
theorem F_g_minerNamed_p3 {o : Nat} {S : dg_S} {gr : Nat} {a1 : Int32}  : F_g_minerNamed o S gr a1 = lp (F_g_minerNamed_B1 S gr a1) (0 : Int32) ((7 - ((0 : Int32)).toInt).toNat + 1) (0 : Int32) := rfl
set_option maxHeartbeats 8000000 in
set_option maxRecDepth 100000 in
theorem c_g_minerNamedR (l : Launch) (g : Nat → ClassId) (D : va_G) (o : Nat) (S : dg_S) (gr : Nat) (hk_gr : rX gr) (a1 : Int32) (I : CX o S) (sz : Nat) : Met l yX2_minerNamed (bw yX2_minerNamed cX2_minerNamed 3 (some .int)) ({ frames := 1, cells := 0, slots := 0, locals := 32 } : Room) (dk_Pc g D (dg_w g shX o rfX S) sz [.ref (o + gr), .int a1]) (va_Qi (fun (r : Int32) S' => S' = S ∧ ((-1) ≤ (r).toInt ∧ (r).toInt ≤ 5) ∧ (r = F_g_minerNamed o S gr a1) ∧ True) (dg_B g D shX o rfX) (dg_A o shX.length sz)) 0 0 (dg_A o shX.length sz) := by
  refine dg_met (cc := cX2_minerNamed) (maxL := 3) (ret := (some .int)) (dk_dq rfl) rfl (Nat.le_of_ble_eq_true rfl) ?_
  intro p e s m args below meth c A hAe harg hx hb hr hml hts hown hlocks hin hP K hS hA1 hA ST hsz ls hl
  rw [← hAe]
  have F : CallFix p m c cX2_minerNamed 3 s args (bw yX2_minerNamed cX2_minerNamed 3 (some .int)) RX2 := ⟨hx, hb, hml, hown, hts⟩
  have hl : lv_has ls 3 [(0, .ref (o + gr)), (1, .int a1)] := hl
  have M_0 : dg_sm shX [] [] S S := dg_sm.rf
  refine lv_iconst (v := 0) hx hb dX2_minerNamed_0 (by decide +kernel) ?_
  refine lv_istore_n (lv' := [(2, .int 0), (0, .ref (o + gr)), (1, .int a1)]) hx hb dX2_minerNamed_1 rfl hl (dk_dq rfl) rfl (fun ls hl => ?_)
  have L_63 : ∀ (n : Nat) (x_62 : Int32), (0 ≤ (x_62).toInt ∧ (x_62).toInt ≤ 6) → ((7 - (x_62).toInt).toNat < n) → (F_g_minerNamed o S gr a1 = lp (F_g_minerNamed_B1 S gr a1) (0 : Int32) n x_62) → ∀ (H : Heap) (locs : List Loc), va_P D vwCl (dg_w g shX o rfX S) H → va_S A s.heap H locs → ∀ ls : Array Slot, lv_has ls 3 [(2, .int x_62), (0, .ref (o + gr)), (1, .int a1)] → W p l e ({ frames := 1, cells := 0, slots := 0, locals := 32 } : Room) s m args below meth c H locs 0 0 (MQ below (va_Qi (fun (r : Int32) S' => S' = S ∧ ((-1) ≤ (r).toInt ∧ (r).toInt ≤ 5) ∧ (r = F_g_minerNamed o S gr a1) ∧ True) (dg_B g D shX o rfX) A) args s 0 0 A) (F0 m 2 ls []) := by
    as_aux_lemma =>
      intro n
      induction n with
      | zero =>
        intro x_62 b_x_62 hmu hF_1 H locs hP hS ls hl
        omega
      | succ n ih =>
        as_aux_lemma =>
          intro x_62 b_x_62 hmu hF_1 H locs hP hS ls hl
          refine lv_iload_n hx hb dX2_minerNamed_2 rfl (lv_at hl 0 rfl) ?_
          refine lv_aload_n hx hb dX2_minerNamed_3 rfl (lv_at hl 1 rfl) ?_
          obtain ⟨x_64, f_x_64, b_x_64⟩ := dg_I.int (i := gr) (k := 6) (lo := 0) (hi := 6) I (rX_0 gr hk_gr) (by decide +kernel)
          refine dg_get (C := RX2) (T := TX2) (N := 19) hx hb hts (fun w h => bw_mem (wU_X2 w h)) hown K hP (rX_0 gr hk_gr) rfl 6 (dk_dq rfl) (hts _ (bw_mem wB_2)) (fun _ h9 => h9) (v := .int x_64) f_x_64 dX2_minerNamed_4 ?_
          refine lv_icmp_ge (tgt := 28) hx hb dX2_minerNamed_7 (dk_dq rfl) (fun c_65 => ?_) (fun c_65 => ?_)
          · have jc_65 := dk_gec (k := (x_64).toInt) rfl c_65
            refine lv_iconst (v := (-1)) hx hb dX2_minerNamed_28 (by decide +kernel) ?_
            have hz_66 : (-1 : Int32).toInt = (-1) := by decide +kernel
            refine W.widen (k := 0) (n := 0) (Nat.le_of_ble_eq_true rfl) (Nat.le_of_ble_eq_true rfl) ?_
            exact dg_iret hx hb hr hlocks rfl hP hS ⟨rfl, (by decide +kernel), (Eq.symm (lp_r hF_1 (F_g_minerNamed_p0 (zI_eq f_x_64) c_65))), trivial⟩ dX2_minerNamed_29
          · as_aux_lemma =>
              have jc_65 := dk_ngec (k := (x_64).toInt) rfl c_65
              refine lv_aload_n hx hb dX2_minerNamed_10 rfl (lv_at hl 1 rfl) ?_
              refine dg_get (C := RX2) (T := TX2) (N := 19) hx hb hts (fun w h => bw_mem (wU_X2 w h)) hown K hP (rX_0 gr hk_gr) rfl 7 (dk_dq rfl) (hts _ (bw_mem wB_3)) (fun _ h9 => h9) (v := .ref (o + (gr + 2))) (show S.1 gr 7 = .ref (o + (gr + 2)) from dg_I.rel (d := 2) I (rX_0 gr hk_gr) (by decide +kernel)) dX2_minerNamed_11 ?_
              refine lv_iload_n hx hb dX2_minerNamed_14 rfl (lv_at hl 0 rfl) ?_
              have hin_67 : vp_in x_62 6 := (dk_inv2 (by omega))
              refine dg_iald hx hb K hP (rX_2 gr hk_gr) hin_67 dX2_minerNamed_15 (fun x_68 ex_68 => ?_)
              refine lv_iload_n hx hb dX2_minerNamed_16 rfl (lv_at hl 2 rfl) ?_
              refine lv_icmp_ne (tgt := 22) hx hb dX2_minerNamed_17 (dk_dq rfl) (fun c_69 => ?_) (fun c_69 => ?_)
              · have hf_69 := dk_full x_68
                have hf_70 := dk_full a1
                have jc_69 := dk_neqc (k := (a1).toInt) rfl c_69
                obtain ⟨x_72, ex_72⟩ : ∃ z, z = x_62 + 1 := ⟨_, rfl⟩
                have jx_72 : (x_72).toInt = (x_62).toInt + 1 := by rw [ex_72]; exact dk_addT2 rfl (by decide +kernel) (by omega)
                refine lv_iinc (v := x_72) (lv' := [(2, .int x_72), (0, .ref (o + gr)), (1, .int a1)]) hx hb dX2_minerNamed_22 hl (k := 0) rfl (by rw [ex_72]; rfl) (dk_dq rfl) rfl (fun ls hl => ?_)
                refine lv_goto (tgt := 2) hx hb dX2_minerNamed_25 (dk_dq rfl) ?_
                exact ih x_72 (by omega) (by first | exact mu_lt hmu (by omega) (by omega) | omega) (lp_l hF_1 (F_g_minerNamed_p1 (zI_eq f_x_64) c_65 (Eq.symm ex_68.symm) c_69 ex_72)) _ _ hP hS _ (lv_sub hl [0, 1, 2] rfl)
              · have hf_72 := dk_full x_68
                have hf_73 := dk_full a1
                have jc_69 := dk_eqc (k := (a1).toInt) rfl c_69
                refine lv_iload_n hx hb dX2_minerNamed_20 rfl (lv_at hl 0 rfl) ?_
                refine W.widen (k := 0) (n := 0) (Nat.le_of_ble_eq_true rfl) (Nat.le_of_ble_eq_true rfl) ?_
                exact dg_iret hx hb hr hlocks rfl hP hS ⟨rfl, (by omega), (Eq.symm (lp_r hF_1 (F_g_minerNamed_p2 (zI_eq f_x_64) c_65 (Eq.symm ex_68.symm) c_69))), trivial⟩ dX2_minerNamed_21
  have hz_75 : (0 : Int32).toInt = 0 := by decide +kernel
  have hz_76 : (0 : Int32).toInt = 0 := by decide +kernel
  exact L_63 ((7 - ((0 : Int32)).toInt).toNat + 1) 0 (by decide +kernel) (by first | exact mu_lt hmu (by omega) (by omega) | omega) (F_g_minerNamed_p3) _ _ hP hS _ (lv_sub hl [0, 1, 2] rfl)
noncomputable def F_g_hasName_B1 (S : dg_S) (gr : Nat) (o : Nat) (a1 : Int32) : Int32 → (Int32) ⊕ (Int32) := fun w9 => match w9 with | x_86 => let x_88 : Int32 := zI S gr 11; (if x_88 ≤ x_86 then (Sum.inr (let x_90 : Int32 := F_g_minerNamed o S gr a1; (if x_90 = (-1 : Int32) then (0 : Int32) else (1 : Int32)))) else let x_96 : Int32 := S.2.1 (gr + 5) (x_86 : Int32).toNatClampNeg; (if x_96 = a1 then (Sum.inr ((1 : Int32))) else let x_100 : Int32 := x_86 + 1; (Sum.inl x_100)))
noncomputable def F_g_hasName (o : Nat) (S : dg_S) (gr : Nat) (a1 : Int32) : Int32 := (lp (F_g_hasName_B1 S gr o a1) (0 : Int32) ((6 - ((0 : Int32)).toInt).toNat + 1) (0 : Int32))
theorem F_g_hasName_p0 {S : dg_S} {gr : Nat} {o : Nat} {a1 : Int32} {x_86 : Int32} {x_88 : Int32} {x_90 : Int32} (h0 : x_88 = zI S gr 11) (h1 : x_88 ≤ x_86) (h3 : x_90 = F_g_minerNamed o S gr a1) (h4 : x_90 = (-1 : Int32)) : (F_g_hasName_B1 S gr o a1) x_86 = Sum.inr ((0 : Int32)) := by
  replace h0 := Eq.symm h0
  subst h0
  replace h3 := Eq.symm h3
  subst h3
  exact (Eq.trans (if_pos h1) (congrArg Sum.inr (Eq.trans (if_pos h4) rfl)))
theorem F_g_hasName_p1 {S : dg_S} {gr : Nat} {o : Nat} {a1 : Int32} {x_86 : Int32} {x_88 : Int32} {x_90 : Int32} (h0 : x_88 = zI S gr 11) (h1 : x_88 ≤ x_86) (h3 : x_90 = F_g_minerNamed o S gr a1) (h4 : ¬ (x_90 = (-1 : Int32))) : (F_g_hasName_B1 S gr o a1) x_86 = Sum.inr ((1 : Int32)) := by
  replace h0 := Eq.symm h0
  subst h0
  replace h3 := Eq.symm h3
  subst h3
  exact (Eq.trans (if_pos h1) (congrArg Sum.inr (Eq.trans (if_neg h4) rfl)))
theorem F_g_hasName_p2 {S : dg_S} {gr : Nat} {o : Nat} {a1 : Int32} {x_86 : Int32} {x_100 : Int32} {x_88 : Int32} {x_96 : Int32} (h0 : x_88 = zI S gr 11) (h1 : ¬ (x_88 ≤ x_86)) (h2 : x_96 = S.2.1 (gr + 5) (x_86 : Int32).toNatClampNeg) (h3 : ¬ (x_96 = a1)) (h4 : x_100 = x_86 + 1) : (F_g_hasName_B1 S gr o a1) x_86 = Sum.inl x_100 := by
  replace h0 := Eq.symm h0
  subst h0
  replace h2 := Eq.symm h2
  subst h2
  replace h4 := Eq.symm h4
  subst h4
  exact (Eq.trans (if_neg h1) (Eq.trans (if_neg h3) rfl))
theorem F_g_hasName_p3 {S : dg_S} {gr : Nat} {o : Nat} {a1 : Int32} {x_86 : Int32} {x_88 : Int32} {x_96 : Int32} (h0 : x_88 = zI S gr 11) (h1 : ¬ (x_88 ≤ x_86)) (h2 : x_96 = S.2.1 (gr + 5) (x_86 : Int32).toNatClampNeg) (h3 : x_96 = a1) : (F_g_hasName_B1 S gr o a1) x_86 = Sum.inr ((1 : Int32)) := by
  replace h0 := Eq.symm h0
  subst h0
  replace h2 := Eq.symm h2
  subst h2
  exact (Eq.trans (if_neg h1) (Eq.trans (if_pos h3) rfl))
theorem F_g_hasName_p4 {o : Nat} {S : dg_S} {gr : Nat} {a1 : Int32}  : F_g_hasName o S gr a1 = lp (F_g_hasName_B1 S gr o a1) (0 : Int32) ((6 - ((0 : Int32)).toInt).toNat + 1) (0 : Int32) := rfl
set_option maxHeartbeats 8000000 in
set_option maxRecDepth 100000 in
theorem c_g_hasNameR (l : Launch) (g : Nat → ClassId) (D : va_G) (o : Nat) (S : dg_S) (gr : Nat) (hk_gr : rX gr) (a1 : Int32) (I : CX o S) (sz : Nat) : Met l yX2_hasName (bw yX2_hasName cX2_hasName 3 (some .boolean)) ({ frames := 2, cells := 0, slots := 0, locals := 54 } : Room) (dk_Pc g D (dg_w g shX o rfX S) sz [.ref (o + gr), .int a1]) (va_Qi (fun (r : Int32) S' => S' = S ∧ (0 ≤ (r).toInt ∧ (r).toInt ≤ 1) ∧ (r = F_g_hasName o S gr a1) ∧ True) (dg_B g D shX o rfX) (dg_A o shX.length sz)) 0 0 (dg_A o shX.length sz) := by
  refine dg_met (cc := cX2_hasName) (maxL := 3) (ret := (some .boolean)) (dk_dq rfl) rfl (Nat.le_of_ble_eq_true rfl) ?_
  intro p e s m args below meth c A hAe harg hx hb hr hml hts hown hlocks hin hP K hS hA1 hA ST hsz ls hl
  rw [← hAe]
  have F : CallFix p m c cX2_hasName 3 s args (bw yX2_hasName cX2_hasName 3 (some .boolean)) RX2 := ⟨hx, hb, hml, hown, hts⟩
  have hl : lv_has ls 3 [(0, .ref (o + gr)), (1, .int a1)] := hl
  have M_0 : dg_sm shX [] [] S S := dg_sm.rf
  refine lv_iconst (v := 0) hx hb dX2_hasName_0 (by decide +kernel) ?_
  refine lv_istore_n (lv' := [(2, .int 0), (0, .ref (o + gr)), (1, .int a1)]) hx hb dX2_hasName_1 rfl hl (dk_dq rfl) rfl (fun ls hl => ?_)
  have L_87 : ∀ (n : Nat) (x_86 : Int32), (0 ≤ (x_86).toInt ∧ (x_86).toInt ≤ 5) → ((6 - (x_86).toInt).toNat < n) → (F_g_hasName o S gr a1 = lp (F_g_hasName_B1 S gr o a1) (0 : Int32) n x_86) → ∀ (H : Heap) (locs : List Loc), va_P D vwCl (dg_w g shX o rfX S) H → va_S A s.heap H locs → ∀ ls : Array Slot, lv_has ls 3 [(2, .int x_86), (0, .ref (o + gr)), (1, .int a1)] → W p l e ({ frames := 2, cells := 0, slots := 0, locals := 54 } : Room) s m args below meth c H locs 0 0 (MQ below (va_Qi (fun (r : Int32) S' => S' = S ∧ (0 ≤ (r).toInt ∧ (r).toInt ≤ 1) ∧ (r = F_g_hasName o S gr a1) ∧ True) (dg_B g D shX o rfX) A) args s 0 0 A) (F0 m 2 ls []) := by
    as_aux_lemma =>
      intro n
      induction n with
      | zero =>
        intro x_86 b_x_86 hmu hF_1 H locs hP hS ls hl
        omega
      | succ n ih =>
        as_aux_lemma =>
          intro x_86 b_x_86 hmu hF_1 H locs hP hS ls hl
          refine lv_iload_n hx hb dX2_hasName_2 rfl (lv_at hl 0 rfl) ?_
          refine lv_aload_n hx hb dX2_hasName_3 rfl (lv_at hl 1 rfl) ?_
          obtain ⟨x_88, f_x_88, b_x_88⟩ := dg_I.int (i := gr) (k := 11) (lo := 0) (hi := 5) I (rX_0 gr hk_gr) (by decide +kernel)
          refine dg_get (C := RX2) (T := TX2) (N := 19) hx hb hts (fun w h => bw_mem (wU_X2 w h)) hown K hP (rX_0 gr hk_gr) rfl 11 (dk_dq rfl) (hts _ (bw_mem wB_4)) (fun _ h9 => h9) (v := .int x_88) f_x_88 dX2_hasName_4 ?_
          refine lv_icmp_ge (tgt := 28) hx hb dX2_hasName_7 (dk_dq rfl) (fun c_89 => ?_) (fun c_89 => ?_)
          · as_aux_lemma =>
              have jc_89 := dk_gec (k := (x_88).toInt) rfl c_89
              refine lv_aload_n hx hb dX2_hasName_28 rfl (lv_at hl 1 rfl) ?_
              refine lv_iload_n hx hb dX2_hasName_29 rfl (lv_at hl 2 rfl) ?_
              refine dg_calli hS hA1 hA (va_runV (As := [.int a1]) (rest := []) F (c_g_minerNamedR l g D o S gr hk_gr a1 I H.size) (cwV 1 hts (bw_V wB_6 wB_7 wB_8 wB_9 wB_5) rfl rfl rfl (by decide +kernel) ⟨Nat.le_of_ble_eq_true rfl, Nat.le_of_ble_eq_true rfl⟩) (dg_preV (rX_0 gr hk_gr) rfl K ST hP hS hA1 hA) rfl rfl hl.1 rfl (lv_room (Nat.le_of_ble_eq_true rfl)) dX2_hasName_30 ⟨Nat.le_of_ble_eq_true rfl, Nat.le_of_ble_eq_true rfl⟩) (fun x_90 S_91 hw_91 H locs hP hS => ?_)
              rw [hw_91.1] at hP
              obtain ⟨hq_91, w_91_0, w_91_1, -⟩ := hw_91
              have w_91_0 : (-1) ≤ (x_90).toInt ∧ (x_90).toInt ≤ 5 := w_91_0
              refine lv_iconst (v := (-1)) hx hb dX2_hasName_33 (by decide +kernel) ?_
              refine lv_icmp_eq (tgt := 41) hx hb dX2_hasName_34 (dk_dq rfl) (fun c_92 => ?_) (fun c_92 => ?_)
              · have jc_92 := dk_eqc (k := (-1)) (by decide +kernel) c_92
                refine lv_iconst (v := 0) hx hb dX2_hasName_41 (by decide +kernel) ?_
                have hz_93 : (0 : Int32).toInt = 0 := by decide +kernel
                refine W.widen (k := 0) (n := 0) (Nat.le_of_ble_eq_true rfl) (Nat.le_of_ble_eq_true rfl) ?_
                exact dg_iret hx hb hr hlocks (by decide +kernel) hP hS ⟨rfl, (by decide +kernel), (Eq.symm (lp_r hF_1 (F_g_hasName_p0 (zI_eq f_x_88) c_89 w_91_1 c_92))), trivial⟩ dX2_hasName_42
              · have jc_92 := dk_neqc (k := (-1)) (by decide +kernel) c_92
                refine lv_iconst (v := 1) hx hb dX2_hasName_37 (by decide +kernel) ?_
                refine lv_goto (tgt := 42) hx hb dX2_hasName_38 (dk_dq rfl) ?_
                have hz_94 : (1 : Int32).toInt = 1 := by decide +kernel
                refine W.widen (k := 0) (n := 0) (Nat.le_of_ble_eq_true rfl) (Nat.le_of_ble_eq_true rfl) ?_
                exact dg_iret hx hb hr hlocks (by decide +kernel) hP hS ⟨rfl, (by decide +kernel), (Eq.symm (lp_r hF_1 (F_g_hasName_p1 (zI_eq f_x_88) c_89 w_91_1 c_92))), trivial⟩ dX2_hasName_42
          · as_aux_lemma =>
              have jc_89 := dk_ngec (k := (x_88).toInt) rfl c_89
              refine lv_aload_n hx hb dX2_hasName_10 rfl (lv_at hl 1 rfl) ?_
              refine dg_get (C := RX2) (T := TX2) (N := 19) hx hb hts (fun w h => bw_mem (wU_X2 w h)) hown K hP (rX_0 gr hk_gr) rfl 12 (dk_dq rfl) (hts _ (bw_mem wB_10)) (fun _ h9 => h9) (v := .ref (o + (gr + 5))) (show S.1 gr 12 = .ref (o + (gr + 5)) from dg_I.rel (d := 5) I (rX_0 gr hk_gr) (by decide +kernel)) dX2_hasName_11 ?_
              refine lv_iload_n hx hb dX2_hasName_14 rfl (lv_at hl 0 rfl) ?_
              have hin_95 : vp_in x_86 5 := (dk_inv2 (by omega))
              refine dg_iald hx hb K hP (rX_5 gr hk_gr) hin_95 dX2_hasName_15 (fun x_96 ex_96 => ?_)
              refine lv_iload_n hx hb dX2_hasName_16 rfl (lv_at hl 2 rfl) ?_
              refine lv_icmp_ne (tgt := 22) hx hb dX2_hasName_17 (dk_dq rfl) (fun c_97 => ?_) (fun c_97 => ?_)
              · have hf_97 := dk_full x_96
                have hf_98 := dk_full a1
                have jc_97 := dk_neqc (k := (a1).toInt) rfl c_97
                obtain ⟨x_100, ex_100⟩ : ∃ z, z = x_86 + 1 := ⟨_, rfl⟩
                have jx_100 : (x_100).toInt = (x_86).toInt + 1 := by rw [ex_100]; exact dk_addT2 rfl (by decide +kernel) (by omega)
                refine lv_iinc (v := x_100) (lv' := [(2, .int x_100), (0, .ref (o + gr)), (1, .int a1)]) hx hb dX2_hasName_22 hl (k := 0) rfl (by rw [ex_100]; rfl) (dk_dq rfl) rfl (fun ls hl => ?_)
                refine lv_goto (tgt := 2) hx hb dX2_hasName_25 (dk_dq rfl) ?_
                exact ih x_100 (by omega) (by first | exact mu_lt hmu (by omega) (by omega) | omega) (lp_l hF_1 (F_g_hasName_p2 (zI_eq f_x_88) c_89 (Eq.symm ex_96.symm) c_97 ex_100)) _ _ hP hS _ (lv_sub hl [0, 1, 2] rfl)
              · have hf_100 := dk_full x_96
                have hf_101 := dk_full a1
                have jc_97 := dk_eqc (k := (a1).toInt) rfl c_97
                refine lv_iconst (v := 1) hx hb dX2_hasName_20 (by decide +kernel) ?_
                have hz_103 : (1 : Int32).toInt = 1 := by decide +kernel
                refine W.widen (k := 0) (n := 0) (Nat.le_of_ble_eq_true rfl) (Nat.le_of_ble_eq_true rfl) ?_
                exact dg_iret hx hb hr hlocks (by decide +kernel) hP hS ⟨rfl, (by decide +kernel), (Eq.symm (lp_r hF_1 (F_g_hasName_p3 (zI_eq f_x_88) c_89 (Eq.symm ex_96.symm) c_97))), trivial⟩ dX2_hasName_21
  have hz_104 : (0 : Int32).toInt = 0 := by decide +kernel
  have hz_105 : (0 : Int32).toInt = 0 := by decide +kernel
  exact L_87 ((6 - ((0 : Int32)).toInt).toNat + 1) 0 (by decide +kernel) (by first | exact mu_lt hmu (by omega) (by omega) | omega) (F_g_hasName_p4) _ _ hP hS _ (lv_sub hl [0, 1, 2] rfl)
end
section

theorem c_fillF (l : Launch) (g : Nat → ClassId) (D : va_G) {sh : List dg_q} {o : Nat} {rf : dg_R} (S : dg_S) {i c0 n ro : Nat} (hi : sh[i]? = some (1, c0, n, ro)) (hn : n < 2 ^ 31) (v : Int32) (sz : Nat) : Met l yJ7_fill_53178 (bw yJ7_fill_53178 cJ7_fill_53178 4 none) ({ frames := 1, cells := 0, slots := 0, locals := 32 } : Room) (dk_Pc g D (dg_w g sh o rf S) sz [.ref (o + i), .int v]) (va_Qv (fun S' => ∃ r : Nat → Int32, S' = dg_uf S i r ∧ (∀ j, j < n → r j = v) ∧ r = dk_fl (S.2.1 i) v n) (dg_B g D sh o rf) (dg_A o sh.length sz)) 0 0 (dg_A o sh.length sz) := by
  refine dg_met (cc := cJ7_fill_53178) (maxL := 4) (ret := none) (by decide) rfl (Nat.le_of_ble_eq_true rfl) ?_
  intro p e s m args below meth c A hAe harg hx hb hr hml hts hown hlocks hin hP K hS hA1 hA ST hsz ls hl
  rw [← hAe]
  have hl : lv_has ls 4 [(0, .ref (o + i)), (1, .int v)] := hl
  refine lv_iconst (v := 0) hx hb dJ7_fill_53178_0 (by decide +kernel) ?_
  refine lv_istore_n (lv' := [(2, .int 0), (0, .ref (o + i)), (1, .int v)]) hx hb dJ7_fill_53178_1 rfl hl (by decide) rfl (fun ls hl => ?_)
  refine lv_aload_n hx hb dJ7_fill_53178_2 rfl (lv_at hl 1 rfl) ?_
  refine dg_alen hx hb K hP hi (v := nI n) rfl dJ7_fill_53178_3 ?_
  refine lv_istore_n (lv' := [(3, .int (nI n)), (2, .int 0), (0, .ref (o + i)), (1, .int v)]) hx hb dJ7_fill_53178_4 rfl hl (by decide) rfl (fun ls hl => ?_)
  have loop : ∀ (t k : Nat), k + t = n → ∀ r : Nat → Int32, ((∀ j, j < k → r j = v) ∧ r = dk_fl (S.2.1 i) v k) → ∀ (H : Heap) (locs : List Loc), va_P D vwCl (dg_w g sh o rf (dg_uf S i r)) H → va_S A s.heap H locs → ∀ ls : Array Slot, lv_has ls 4 [(3, .int (nI n)), (2, .int (nI k)), (0, .ref (o + i)), (1, .int v)] → W p l e ({ frames := 1, cells := 0, slots := 0, locals := 32 } : Room) s m args below meth c H locs 0 0 (MQ below (va_Qv (fun S' => ∃ r : Nat → Int32, S' = dg_uf S i r ∧ (∀ j, j < n → r j = v) ∧ r = dk_fl (S.2.1 i) v n) (dg_B g D sh o rf) A) args s 0 0 A) (F0 m 5 ls []) := by
    intro t
    induction t with
    | zero =>
      intro k hk r hr0 H locs hP hS ls hl
      obtain rfl : k = n := by omega
      refine lv_iload_n hx hb dJ7_fill_53178_5 rfl (lv_at hl 1 rfl) ?_
      refine lv_iload_n hx hb dJ7_fill_53178_6 rfl (lv_at hl 0 rfl) ?_
      refine lv_icmp_ge (tgt := 20) hx hb dJ7_fill_53178_7 (by decide) (fun _ => ?_) (fun c => absurd (nI_le (Nat.le_refl _) hn) c)
      refine W.widen (k := 0) (n := 0) (Nat.le_of_ble_eq_true rfl) (Nat.le_of_ble_eq_true rfl) ?_
      exact dg_vret hx hb hr hlocks hP hS ⟨r, rfl, hr0.1, hr0.2⟩ dJ7_fill_53178_20
    | succ t ih =>
      intro k hk r hr0 H locs hP hS ls hl
      refine lv_iload_n hx hb dJ7_fill_53178_5 rfl (lv_at hl 1 rfl) ?_
      refine lv_iload_n hx hb dJ7_fill_53178_6 rfl (lv_at hl 0 rfl) ?_
      refine lv_icmp_ge (tgt := 20) hx hb dJ7_fill_53178_7 (by decide) (fun c => absurd c (nI_ge (a := k) (b := n) (by omega) (by omega))) (fun _ => ?_)
      refine lv_aload_n hx hb dJ7_fill_53178_10 rfl (lv_at hl 2 rfl) ?_
      refine lv_iload_n hx hb dJ7_fill_53178_11 rfl (lv_at hl 1 rfl) ?_
      refine lv_iload_n hx hb dJ7_fill_53178_12 rfl (lv_at hl 3 rfl) ?_
      refine dg_iast hx hb K hP hS hA1 hi (nI_in (by omega) (by omega)) dJ7_fill_53178_13 (fun S1 e1 H locs hP hS => ?_)
      rw [e1, dg_uf_uf] at hP
      refine lv_iinc (v := nI (k + 1)) (lv' := [(2, .int (nI (k + 1))), (3, .int (nI n)), (0, .ref (o + i)), (1, .int v)]) hx hb dJ7_fill_53178_14 hl (k := 1) rfl (by rw [nI_succ]; rfl) (by decide) rfl (fun ls hl => ?_)
      refine lv_goto (tgt := 5) hx hb dJ7_fill_53178_17 (by decide) ?_
      have e2 : (dg_uf S i r).2.1 i = r := dg_uf_at rfl
      have e3 : upd ((dg_uf S i r).2.1 i) (nI k).toNatClampNeg v = dk_fl (S.2.1 i) v (k + 1) := by
        rw [e2, nI_clamp (by omega), hr0.2]
        funext j
        exact dk_fl_s _ _ _ _
      refine ih (k + 1) (by omega) _ ⟨fun j hj => ?_, e3⟩ _ _ hP hS _ (lv_sub hl [1, 0, 2, 3] rfl)
      rw [e3]
      unfold dk_fl
      rw [if_pos hj]
  have hP : va_P D vwCl (dg_w g sh o rf (dg_uf S i (S.2.1 i))) s.heap := by rw [dg_uf_self]; exact hP
  exact loop n 0 (by omega) _ ⟨fun j hj => absurd hj (Nat.not_lt_zero j), (dk_fl_0 _ _).symm⟩ _ _ hP hS _ (lv_sub hl [0, 1, 2, 3] rfl)
end
section
/-! bytes on a tape; two tapes with the same bytes are the same text -/
def tp_b (v sh : Int32) : Int32 := (v >>> (sh &&& 31)) &&& 255
def tp_k (f : Nat → Int32) (t : Nat) (v : Int32) : Nat → Nat → Int32
  | 0 => f
  | k + 1 => upd (tp_k f t v k) (t + k) (tp_b v (Int32.ofInt (24 - 8 * (k : Int))))
def tp_5 (f : Nat → Int32) (t : Nat) (a b c d e : Int32) : Nat → Int32 := tp_k (tp_k (tp_k (tp_k (tp_k f t a 4) (t + 4) b 4) (t + 8) c 4) (t + 12) d 4) (t + 16) e 4
theorem tp_z {f : Nat → Int32} {t0 x v : Int32} (h : x.toInt = t0.toInt) : f = tp_k f t0.toNatClampNeg v (x.toNatClampNeg - t0.toNatClampNeg) := by
  have e1 := dk_clN t0
  have e2 := dk_clN x
  rw [show x.toNatClampNeg - t0.toNatClampNeg = 0 by omega]
  rfl
theorem tp_st {f row row' : Nat → Int32} {t0 x x' v b sh : Int32} (h : row = tp_k f t0.toNatClampNeg v (x.toNatClampNeg - t0.toNatClampNeg)) (e : row' = upd row x.toNatClampNeg b) (eb : b = tp_b v sh) (hs : 8 * (x.toInt - t0.toInt) + sh.toInt = 24) (h0 : 0 ≤ t0.toInt) (h1 : t0.toInt ≤ x.toInt) (hx : x'.toInt = x.toInt + 1) : row' = tp_k f t0.toNatClampNeg v (x'.toNatClampNeg - t0.toNatClampNeg) := by
  have e1 := dk_clN t0
  have e2 := dk_clN x
  have e3 := dk_clN x'
  obtain ⟨k, hk⟩ : ∃ k : Nat, k = x.toNatClampNeg - t0.toNatClampNeg := ⟨_, rfl⟩
  rw [← hk] at h
  rw [show x'.toNatClampNeg - t0.toNatClampNeg = k + 1 by omega]
  show row' = upd (tp_k f t0.toNatClampNeg v k) (t0.toNatClampNeg + k) (tp_b v (Int32.ofInt (24 - 8 * (k : Int))))
  rw [e, h, eb, show t0.toNatClampNeg + k = x.toNatClampNeg by omega, show sh = Int32.ofInt (24 - 8 * (k : Int)) from t_ofI (by omega)]
theorem tp_e {f row : Nat → Int32} {t0 x v : Int32} (h : row = tp_k f t0.toNatClampNeg v (x.toNatClampNeg - t0.toNatClampNeg)) (hx : x.toInt = t0.toInt + 4) (h0 : 0 ≤ t0.toInt) : row = tp_k f t0.toNatClampNeg v 4 := by
  have e1 := dk_clN t0
  have e2 := dk_clN x
  rw [show x.toNatClampNeg - t0.toNatClampNeg = 4 by omega] at h
  exact h
theorem tp_k_eq {f g : Nat → Int32} {t n : Nat} {v : Int32} (h : ∀ j, j < n → f j = g j) (ht : t ≤ n) : ∀ k j : Nat, j < n ∨ j < t + k → tp_k f t v k j = tp_k g t v k j
  | 0, j, hj => h j (by omega)
  | k + 1, j, hj => by
    show upd (tp_k f t v k) (t + k) _ j = upd (tp_k g t v k) (t + k) _ j
    unfold upd
    by_cases q : j = t + k
    · rw [if_pos q, if_pos q]
    · rw [if_neg q, if_neg q]
      exact tp_k_eq h ht k j (by omega)
theorem tp_5_eq {f g : Nat → Int32} {t : Nat} {a b c d e : Int32} (h : ∀ j, j < t → f j = g j) : ∀ j, j < t + 20 → tp_5 f t a b c d e j = tp_5 g t a b c d e j := by
  intro j hj
  unfold tp_5
  have h1 : ∀ j, j < t + 4 → tp_k f t a 4 j = tp_k g t a 4 j := fun j hj => tp_k_eq h (Nat.le_refl _) 4 j (Or.inr hj)
  have h2 : ∀ j, j < t + 8 → tp_k (tp_k f t a 4) (t + 4) b 4 j = tp_k (tp_k g t a 4) (t + 4) b 4 j := fun j hj => tp_k_eq h1 (Nat.le_refl _) 4 j (Or.inr (by omega))
  have h3 : ∀ j, j < t + 12 → tp_k (tp_k (tp_k f t a 4) (t + 4) b 4) (t + 8) c 4 j = tp_k (tp_k (tp_k g t a 4) (t + 4) b 4) (t + 8) c 4 j := fun j hj => tp_k_eq h2 (Nat.le_refl _) 4 j (Or.inr (by omega))
  have h4 : ∀ j, j < t + 16 → tp_k (tp_k (tp_k (tp_k f t a 4) (t + 4) b 4) (t + 8) c 4) (t + 12) d 4 j = tp_k (tp_k (tp_k (tp_k g t a 4) (t + 4) b 4) (t + 8) c 4) (t + 12) d 4 j := fun j hj => tp_k_eq h3 (Nat.le_refl _) 4 j (Or.inr (by omega))
  exact tp_k_eq h4 (Nat.le_refl _) 4 j (Or.inr (by omega))
section TC
variable {b b' : Nat → Int32} {n : Nat}
theorem tc_bk (h : ∀ j, j < n → b' j = b j) : t_bk b' n = t_bk b n := funext fun j => by
  unfold t_bk
  by_cases q : j < n
  · rw [h j q]
  · simp [q]
theorem tc_wd (h : ∀ j, j < n → b' j = b j) : t_wd b' n = t_wd b n := funext fun j => by
  unfold t_wd
  by_cases q : j < n
  · rw [h j q]
  · simp [q]
theorem tc_nm (h : ∀ j, j < n → b' j = b j) : t_nm b' n = t_nm b n := funext fun j => by
  unfold t_nm
  by_cases q : j < n
  · rw [h j q]
  · simp [q]
theorem tc_sk (h : ∀ j, j < n → b' j = b j) (a : Nat) : t_sk b' n a = t_sk b n a := by
  unfold t_sk
  rw [tc_bk h]
theorem tc_en (h : ∀ j, j < n → b' j = b j) {s : Nat} (hs : s < n) : t_en b' n s = t_en b n s := by
  unfold t_en
  rw [h s hs, tc_wd h, tc_nm h]
theorem tc_P (h : ∀ j, j < n → b' j = b j) : ∀ k, t_P b' n k = t_P b n k
  | 0 => rfl
  | k + 1 => by
    show (if t_sk b' n (t_P b' n k) < n then t_en b' n (t_sk b' n (t_P b' n k)) else t_sk b' n (t_P b' n k)) = (if t_sk b n (t_P b n k) < n then t_en b n (t_sk b n (t_P b n k)) else t_sk b n (t_P b n k))
    rw [tc_P h k, tc_sk h]
    by_cases q : t_sk b n (t_P b n k) < n
    · rw [if_pos q, if_pos q, tc_en h q]
    · rw [if_neg q, if_neg q]
theorem tc_s (h : ∀ j, j < n → b' j = b j) (k : Nat) : t_s b' n k = t_s b n k := by
  unfold t_s
  rw [tc_P h, tc_sk h]
theorem tc_adj (h : ∀ j, j < n → b' j = b j) {s : Nat} (hs : s < n) : t_adj b' s = t_adj b s := by
  unfold t_adj
  rw [h (s - 1) (by omega)]
theorem tc_own (h : ∀ j, j < n → b' j = b j) {s e : Nat} (he : e ≤ n) : t_own b' s e = t_own b s e := by
  have hc : t_ch b' s e = t_ch b s e := funext fun i => by
    unfold t_ch
    by_cases q : s + i < e
    · rw [if_pos q, if_pos q, h _ (by omega)]
    · rw [if_neg q, if_neg q]
  have hm : t_mt b' s e = t_mt b s e := funext fun j => by
    unfold t_mt
    rw [hc]
  unfold t_own
  rw [hm]
theorem tc_let (h : ∀ j, j < n → b' j = b j) {s e : Nat} (he : e ≤ n) : ∀ i, t_let b' s e i = t_let b s e i
  | 0 => rfl
  | i + 1 => by
    show 27 * t_let b' s e i + _ = 27 * t_let b s e i + _
    rw [tc_let h he i]
    by_cases q : s + i < e
    · rw [if_pos q, if_pos q, h _ (by omega)]
    · rw [if_neg q, if_neg q]
theorem tc_num (h : ∀ j, j < n → b' j = b j) {s : Nat} : ∀ i, s + i ≤ n → t_num b' s i = t_num b s i
  | 0, _ => rfl
  | i + 1, hi => by
    show 10 * t_num b' s i + _ = 10 * t_num b s i + _
    rw [tc_num h i (by omega), h _ (by omega)]
theorem tc_kd (h : ∀ j, j < n → b' j = b j) : T_kd b' n = T_kd b n ∧ T_vl b' n = T_vl b n := by
  have key : ∀ k, t_kd b' n k = t_kd b n k ∧ t_vl b' n k = t_vl b n k := by
    intro k
    unfold t_kd t_vl
    rw [tc_s h, tc_P h]
    by_cases q : t_s b n k < n
    · rw [if_pos q, if_pos q, if_pos q, if_pos q, tc_adj h q]
      have he : t_P b n (k + 1) ≤ n := t_P_le (k + 1)
      have hg : t_s b n k < t_P b n (k + 1) := by rw [t_P_s q]; exact t_en_gt q
      refine ⟨?_, ?_⟩
      · unfold t_K
        rw [h _ q, tc_own h he]
      · unfold t_V
        rw [h _ q, tc_own h he, tc_let h he, tc_num h _ (by omega)]
    · rw [if_neg q, if_neg q, if_neg q, if_neg q]
      exact ⟨rfl, rfl⟩
  exact ⟨funext fun k => by unfold T_kd; rw [(key k).1], funext fun k => by unfold T_vl; rw [(key k).2]⟩
/-- what two readers of one text answer is one number -/
theorem mine_eq {r1 r2 t : Int32} {f g : Nat → Int32} (h1 : (r1.toInt = -1 → y_mine (T_kd f t.toNatClampNeg) (T_vl f t.toNatClampNeg) = none) ∧ (r1.toInt ≠ -1 → ∃ σ9 : y_S, y_mine (T_kd f t.toNatClampNeg) (T_vl f t.toNatClampNeg) = some (r1.toNatClampNeg, σ9))) (h2 : (r2.toInt = -1 → y_mine (T_kd g t.toNatClampNeg) (T_vl g t.toNatClampNeg) = none) ∧ (r2.toInt ≠ -1 → ∃ σ9 : y_S, y_mine (T_kd g t.toNatClampNeg) (T_vl g t.toNatClampNeg) = some (r2.toNatClampNeg, σ9))) (h : ∀ j, j < t.toNatClampNeg → f j = g j) (b1 : -1 ≤ r1.toInt) (b2 : -1 ≤ r2.toInt) : r1 = r2 := by
  obtain ⟨e1, e2⟩ := tc_kd h
  rw [e1, e2] at h1
  have c1 := dk_clN r1
  have c2 := dk_clN r2
  apply Int32.toInt_inj.mp
  by_cases q1 : r1.toInt = -1
  · have a := h1.1 q1
    by_cases q2 : r2.toInt = -1
    · omega
    · obtain ⟨σ, e⟩ := h2.2 q2
      rw [a] at e
      cases e
  · obtain ⟨σ, e⟩ := h1.2 q1
    by_cases q2 : r2.toInt = -1
    · rw [h2.1 q2] at e
      cases e
    · obtain ⟨σ', e'⟩ := h2.2 q2
      rw [e] at e'
      have e3 := congrArg Prod.fst (Option.some.inj e')
      have e4 : r1.toNatClampNeg = r2.toNatClampNeg := e3
      omega
end TC
end
