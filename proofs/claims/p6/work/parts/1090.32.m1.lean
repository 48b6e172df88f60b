/-! 32.m1.lean.txt -/
noncomputable def F_m_is (o : Nat) (S : dg_S) (a1 : Int32) (a2 : Int32) (a3 : Int32) : Int32 := (if a1 < a2 then (0 : Int32) else (if a3 < a1 then (0 : Int32) else (1 : Int32)))
theorem F_m_is_p0 {o : Nat} {S : dg_S} {a1 : Int32} {a2 : Int32} {a3 : Int32} (h0 : a1 < a2) : F_m_is o S a1 a2 a3 = (0 : Int32) := (Eq.trans (if_pos h0) rfl)
theorem F_m_is_p1 {o : Nat} {S : dg_S} {a1 : Int32} {a2 : Int32} {a3 : Int32} (h0 : ¬ (a1 < a2)) (h1 : a3 < a1) : F_m_is o S a1 a2 a3 = (0 : Int32) := (Eq.trans (if_neg h0) (Eq.trans (if_pos h1) rfl))
theorem F_m_is_p2 {o : Nat} {S : dg_S} {a1 : Int32} {a2 : Int32} {a3 : Int32} (h0 : ¬ (a1 < a2)) (h1 : ¬ (a3 < a1)) : F_m_is o S a1 a2 a3 = (1 : Int32) := (Eq.trans (if_neg h0) (Eq.trans (if_neg h1) rfl))
set_option maxHeartbeats 8000000 in
set_option maxRecDepth 100000 in
theorem c_m_isR (l : Launch) (g : Nat → ClassId) (D : va_G) (o : Nat) (S : dg_S) (a1 : Int32) (a2 : Int32) (a3 : Int32) (I : CM o S) (sz : Nat) : Met l yX12_is (bw yX12_is cX12_is 3 (some .boolean)) ({ frames := 1, cells := 0, slots := 0, locals := 32 } : Room) (dk_Pc g D (dg_w g shM o rfM S) sz [.int a1, .int a2, .int a3]) (va_Qi (fun (r : Int32) S' => S' = S ∧ (0 ≤ (r).toInt ∧ (r).toInt ≤ 1) ∧ ((r).toInt = 1 ↔ ((a2).toInt ≤ (a1).toInt ∧ (a1).toInt ≤ (a3).toInt)) ∧ (r = F_m_is o S a1 a2 a3) ∧ True) (dg_B g D shM o rfM) (dg_A o shM.length sz)) 0 0 (dg_A o shM.length sz) := by
  refine dg_met (cc := cX12_is) (maxL := 3) (ret := (some .boolean)) (by decide) rfl (Nat.le_of_ble_eq_true rfl) ?_
  intro p e s m args below meth c A hAe harg hx hb hr hml hts hown hlocks hin hP K hS hA1 hA ST hsz ls hl
  rw [← hAe]
  have F : CallFix p m c cX12_is 3 s args (bw yX12_is cX12_is 3 (some .boolean)) RX12 := ⟨hx, hb, hml, hown, hts⟩
  have hl : lv_has ls 3 [(0, .int a1), (1, .int a2), (2, .int a3)] := hl
  have M_0 : dg_sm shM [] [] S S := dg_sm.rf
  refine lv_iload_n hx hb dX12_is_0 rfl (lv_at hl 0 rfl) ?_
  refine lv_iload_n hx hb dX12_is_1 rfl (lv_at hl 1 rfl) ?_
  refine lv_icmp_lt (tgt := 14) hx hb dX12_is_2 (by decide) (fun c_1 => ?_) (fun c_1 => ?_)
  · have hf_1 := dk_full a1
    have hf_2 := dk_full a2
    have jc_1 := dk_ltc (k := (a2).toInt) rfl c_1
    refine lv_iconst (v := 0) hx hb dX12_is_14 (by decide +kernel) ?_
    have hz_4 : (0 : Int32).toInt = 0 := by decide +kernel
    have hz_5 : (0 : Int32).toInt = 0 := by decide +kernel
    refine W.widen (k := 0) (n := 0) (Nat.le_of_ble_eq_true rfl) (Nat.le_of_ble_eq_true rfl) ?_
    exact dg_iret hx hb hr hlocks (by decide +kernel) hP hS ⟨rfl, (by decide +kernel), (by omega), (Eq.symm (F_m_is_p0 c_1)), trivial⟩ dX12_is_15
  · have hf_5 := dk_full a1
    have hf_6 := dk_full a2
    have jc_1 := dk_nltc (k := (a2).toInt) rfl c_1
    refine lv_iload_n hx hb dX12_is_5 rfl (lv_at hl 0 rfl) ?_
    refine lv_iload_n hx hb dX12_is_6 rfl (lv_at hl 2 rfl) ?_
    refine lv_icmp_gt (tgt := 14) hx hb dX12_is_7 (by decide) (fun c_8 => ?_) (fun c_8 => ?_)
    · have hf_8 := dk_full a1
      have hf_9 := dk_full a3
      have jc_8 := dk_gtc (k := (a3).toInt) rfl c_8
      refine lv_iconst (v := 0) hx hb dX12_is_14 (by decide +kernel) ?_
      have hz_11 : (0 : Int32).toInt = 0 := by decide +kernel
      have hz_12 : (0 : Int32).toInt = 0 := by decide +kernel
      refine W.widen (k := 0) (n := 0) (Nat.le_of_ble_eq_true rfl) (Nat.le_of_ble_eq_true rfl) ?_
      exact dg_iret hx hb hr hlocks (by decide +kernel) hP hS ⟨rfl, (by decide +kernel), (by omega), (Eq.symm (F_m_is_p1 c_1 c_8)), trivial⟩ dX12_is_15
    · have hf_12 := dk_full a1
      have hf_13 := dk_full a3
      have jc_8 := dk_ngtc (k := (a3).toInt) rfl c_8
      refine lv_iconst (v := 1) hx hb dX12_is_10 (by decide +kernel) ?_
      refine lv_goto (tgt := 15) hx hb dX12_is_11 (by decide) ?_
      have hz_15 : (1 : Int32).toInt = 1 := by decide +kernel
      have hz_16 : (1 : Int32).toInt = 1 := by decide +kernel
      refine W.widen (k := 0) (n := 0) (Nat.le_of_ble_eq_true rfl) (Nat.le_of_ble_eq_true rfl) ?_
      exact dg_iret hx hb hr hlocks (by decide +kernel) hP hS ⟨rfl, (by decide +kernel), (by omega), (Eq.symm (F_m_is_p2 c_1 c_8)), trivial⟩ dX12_is_15
