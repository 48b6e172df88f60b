/-! 62.loop.lean.txt -/
theorem dL_law_18 : decode cL_law 18 = .ok (.iload_n 3, 1) := by decide +kernel
theorem dL_law_19 : decode cL_law 19 = .ok (.aload_n 0, 1) := by decide +kernel
theorem dL_law_20 : decode cL_law 20 = .ok (.arraylength, 1) := by decide +kernel
theorem dL_law_21 : decode cL_law 21 = .ok (.bipush 6, 2) := by decide +kernel
theorem dL_law_23 : decode cL_law 23 = .ok (.isub, 1) := by decide +kernel
theorem dL_law_24 : decode cL_law 24 = .ok (.if_icmp .gt 1108, 3) := by decide +kernel
theorem dL_law_27 : decode cL_law 27 = .ok (.aload_n 0, 1) := by decide +kernel
theorem dL_law_28 : decode cL_law 28 = .ok (.iload_n 3, 1) := by decide +kernel
theorem dL_law_29 : decode cL_law 29 = .ok (.iaload, 1) := by decide +kernel
theorem dL_law_30 : decode cL_law 30 = .ok (.bipush 63, 2) := by decide +kernel
theorem dL_law_32 : decode cL_law 32 = .ok (.iand, 1) := by decide +kernel
theorem dL_law_33 : decode cL_law 33 = .ok (.tableswitch 1093 0 33 #[151, 214, 237, 250, 273, 296, 339, 382, 405, 438, 471, 494, 537, 570, 593, 626, 659, 682, 715, 728, 741, 764, 787, 810, 853, 906, 929, 952, 965, 988, 1021, 1034, 1057, 1070], 151) := by decide +kernel
theorem dL_law_1126 : decode cL_law 1126 = .ok (.iinc 3 6, 3) := by decide +kernel
theorem dL_law_1129 : decode cL_law 1129 = .ok (.goto (-1111), 3) := by decide +kernel
theorem dL_law_1132 : decode cL_law 1132 = .ok (.iconst 1, 1) := by decide +kernel
theorem dL_law_1133 : decode cL_law 1133 = .ok (.ireturn, 1) := by decide +kernel
set_option maxHeartbeats 8000000 in
set_option maxRecDepth 100000 in
theorem law_loop {p : Program} {e : Env} {s : State} {m : MethodId} {below : List Frame} {meth : Method} {c : Code} (l : Launch) {b L : Nat} {xs : Nat → Int32} {g : Nat → ClassId} {D : va_G} {A : Nat → Prop} {oX oM : Nat} (C : law_St p s m meth c b L xs g D A) (ST : dk_ST A s s.heap) (hO : oX + 380 ≤ oM) (hoX : ∀ i, A (oX + i)) (hoM : ∀ i, A (oM + i)) (hL : L ≤ 3072) : ∀ (n : Nat) (x : Int32), 0 ≤ x.toInt → x.toInt ≤ 3078 → (3078 - x.toInt).toNat < n → ∀ (SX SM : dg_S) (H : Heap) (locs : List Loc) (ls : Array Slot), va_P D vwCl (dg_w g shX oX rfX SX) H → va_P D vwCl (dg_w g shM oM rfM SM) H → va_S A s.heap H locs → law_X oX SX → law_M oM SM → law_T SX SM → law_L oX SX SM → lv_has ls 4 [(3, .int x), (2, .ref (oM + 0)), (1, .ref (oX + 0)), (0, .ref b)] → W p l e room_1 s m #[Value.ref b] below meth c H locs 431 78943 (lw_Z below #[Value.ref b] s) (F0 m 18 ls []) := by
  intro n
  induction n with
  | zero => intro x _ _ h; exact absurd h (Nat.not_lt_zero _)
  | succ n ih =>
    as_aux_lemma =>
      intro x hx0 hx1 hmu SX SM H locs ls hP hM hS IX IM IT IL hl
      obtain ⟨hx, hb, hr, hml, hown, hts, hX, hbl, hlocks, K, hA, hAi⟩ := id C
      have hbA : ¬ A b := fun q => Nat.not_le.mpr hbl (hAi b q)
      refine lv_iload_n hx hb dL_law_18 rfl (lv_at hl 0 rfl) ?_
      refine lv_aload_n hx hb dL_law_19 rfl (lv_at hl 3 rfl) ?_
      refine va_slen hx hb hX hbl hbA hS dL_law_20 ?_
      refine lv_bipush (v := 6) hx hb dL_law_21 (by decide +kernel) ?_
      refine lv_isub hx hb dL_law_23 ?_
      obtain ⟨n6, e6⟩ : ∃ n6, n6 = Int32.ofNat L - 6 := ⟨_, rfl⟩
      refine dk_top (y := n6) e6.symm ?_
      have j6 : n6.toInt = L - 6 := by rw [e6]; exact lw_len hL
      refine lv_icmp_gt (tgt := 1132) hx hb dL_law_24 (by decide) (fun c9 => ?_) (fun c9 => ?_)
      · refine lv_iconst (v := 1) hx hb dL_law_1132 (by decide +kernel) ?_
        refine va_forget (fun q hq => hAi _ (hS.2.2 q hq)) ?_
        refine W.widen (k := 600000) (n := 7302249) (Nat.le_of_ble_eq_true rfl) (Nat.le_of_ble_eq_true rfl) ?_
        exact lw_ret hx hb hr hlocks dL_law_1133
      have jc := dk_ngtc (k := (n6).toInt) rfl c9
      have hxL : x.toInt + 6 ≤ L := by omega
      refine lv_aload_n hx hb dL_law_27 rfl (lv_at hl 3 rfl) ?_
      refine lv_iload_n hx hb dL_law_28 rfl (lv_at hl 0 rfl) ?_
      refine va_sld hx hb hX hbl hbA hS (dk_inv (by omega) (by omega)) dL_law_29 ?_
      refine lv_bipush (v := 63) hx hb dL_law_30 (by decide +kernel) ?_
      refine lv_iand hx hb dL_law_32 ?_
      obtain ⟨v, ev⟩ : ∃ v, v = xs x.toNatClampNeg &&& 63 := ⟨_, rfl⟩
      refine dk_top (y := v) ev.symm ?_
      have jv : 0 ≤ v.toInt ∧ v.toInt ≤ 63 := by rw [ev]; exact lw_and _
      have kk : ∀ (SX SM : dg_S) (H : Heap) (locs : List Loc) (ls : Array Slot), va_P D vwCl (dg_w g shX oX rfX SX) H → va_P D vwCl (dg_w g shM oM rfM SM) H → va_S A s.heap H locs → law_X oX SX → law_M oM SM → law_T SX SM → law_L oX SX SM → lv_has ls 4 [(3, .int x), (2, .ref (oM + 0)), (1, .ref (oX + 0)), (0, .ref b)] → W p l e room_1 s m #[Value.ref b] below meth c H locs 431 78943 (lw_Z below #[Value.ref b] s) (F0 m 1126 ls []) := by
        intro SX SM H locs ls hP hM hS IX IM IT IL hl
        obtain ⟨y, ey⟩ : ∃ y, y = x + 6 := ⟨_, rfl⟩
        have jy : y.toInt = x.toInt + 6 := by rw [ey]; exact dk_addT rfl (by decide +kernel) (by omega) (by omega)
        refine lv_iinc (v := y) (lv' := [(3, .int y), (2, .ref (oM + 0)), (1, .ref (oX + 0)), (0, .ref b)]) hx hb dL_law_1126 hl (k := 0) rfl (by rw [ey]; rfl) (by decide) rfl (fun ls hl => ?_)
        refine lv_goto (tgt := 18) hx hb dL_law_1129 (by decide) ?_
        exact ih y (by omega) (by omega) (by omega) SX SM H locs ls hP hM hS IX IM IT IL hl
      by_cases hd9 : 33 < v.toInt
      · refine lv_tableOut (tgt := 1126) hx hb dL_law_33 (Or.inr hd9) (by decide) ?_
        exact kk SX SM H locs ls hP hM hS IX IM IT IL hl
      have hc : v.toInt = 0 ∨ v.toInt = 1 ∨ v.toInt = 2 ∨ v.toInt = 3 ∨ v.toInt = 4 ∨ v.toInt = 5 ∨ v.toInt = 6 ∨ v.toInt = 7 ∨ v.toInt = 8 ∨ v.toInt = 9 ∨ v.toInt = 10 ∨ v.toInt = 11 ∨ v.toInt = 12 ∨ v.toInt = 13 ∨ v.toInt = 14 ∨ v.toInt = 15 ∨ v.toInt = 16 ∨ v.toInt = 17 ∨ v.toInt = 18 ∨ v.toInt = 19 ∨ v.toInt = 20 ∨ v.toInt = 21 ∨ v.toInt = 22 ∨ v.toInt = 23 ∨ v.toInt = 24 ∨ v.toInt = 25 ∨ v.toInt = 26 ∨ v.toInt = 27 ∨ v.toInt = 28 ∨ v.toInt = 29 ∨ v.toInt = 30 ∨ v.toInt = 31 ∨ v.toInt = 32 ∨ v.toInt = 33 := by omega
      rcases hc with h9 | h9 | h9 | h9 | h9 | h9 | h9 | h9 | h9 | h9 | h9 | h9 | h9 | h9 | h9 | h9 | h9 | h9 | h9 | h9 | h9 | h9 | h9 | h9 | h9 | h9 | h9 | h9 | h9 | h9 | h9 | h9 | h9 | h9
      · refine lv_tableIn (off := 151) (tgt := 184) hx hb dL_law_33 (by rw [h9]; decide) (by rw [h9]; decide) (by rw [h9]; decide +kernel) (by decide) ?_
        exact law_case_0 l C ST hO hoX hoM hP hM hS IX IM IT IL hx0 hxL hL hl kk
      · refine lv_tableIn (off := 214) (tgt := 247) hx hb dL_law_33 (by rw [h9]; decide) (by rw [h9]; decide) (by rw [h9]; decide +kernel) (by decide) ?_
        exact law_case_1 l C ST hO hoX hoM hP hM hS IX IM IT IL hx0 hxL hL hl kk
      · refine lv_tableIn (off := 237) (tgt := 270) hx hb dL_law_33 (by rw [h9]; decide) (by rw [h9]; decide) (by rw [h9]; decide +kernel) (by decide) ?_
        exact law_case_2 l C ST hO hoX hoM hP hM hS IX IM IT IL hx0 hxL hL hl kk
      · refine lv_tableIn (off := 250) (tgt := 283) hx hb dL_law_33 (by rw [h9]; decide) (by rw [h9]; decide) (by rw [h9]; decide +kernel) (by decide) ?_
        exact law_case_3 l C ST hO hoX hoM hP hM hS IX IM IT IL hx0 hxL hL hl kk
      · refine lv_tableIn (off := 273) (tgt := 306) hx hb dL_law_33 (by rw [h9]; decide) (by rw [h9]; decide) (by rw [h9]; decide +kernel) (by decide) ?_
        exact law_case_4 l C ST hO hoX hoM hP hM hS IX IM IT IL hx0 hxL hL hl kk
      · refine lv_tableIn (off := 296) (tgt := 329) hx hb dL_law_33 (by rw [h9]; decide) (by rw [h9]; decide) (by rw [h9]; decide +kernel) (by decide) ?_
        exact law_case_5 l C ST hO hoX hoM hP hM hS IX IM IT IL hx0 hxL hL hl kk
      · refine lv_tableIn (off := 339) (tgt := 372) hx hb dL_law_33 (by rw [h9]; decide) (by rw [h9]; decide) (by rw [h9]; decide +kernel) (by decide) ?_
        exact law_case_6 l C ST hO hoX hoM hP hM hS IX IM IT IL hx0 hxL hL hl kk
      · refine lv_tableIn (off := 382) (tgt := 415) hx hb dL_law_33 (by rw [h9]; decide) (by rw [h9]; decide) (by rw [h9]; decide +kernel) (by decide) ?_
        exact law_case_7 l C ST hO hoX hoM hP hM hS IX IM IT IL hx0 hxL hL hl kk
      · refine lv_tableIn (off := 405) (tgt := 438) hx hb dL_law_33 (by rw [h9]; decide) (by rw [h9]; decide) (by rw [h9]; decide +kernel) (by decide) ?_
        exact law_case_8 l C ST hO hoX hoM hP hM hS IX IM IT IL hx0 hxL hL hl kk
      · refine lv_tableIn (off := 438) (tgt := 471) hx hb dL_law_33 (by rw [h9]; decide) (by rw [h9]; decide) (by rw [h9]; decide +kernel) (by decide) ?_
        exact law_case_9 l C ST hO hoX hoM hP hM hS IX IM IT IL hx0 hxL hL hl kk
      · refine lv_tableIn (off := 471) (tgt := 504) hx hb dL_law_33 (by rw [h9]; decide) (by rw [h9]; decide) (by rw [h9]; decide +kernel) (by decide) ?_
        exact law_case_10 l C ST hO hoX hoM hP hM hS IX IM IT IL hx0 hxL hL hl kk
      · refine lv_tableIn (off := 494) (tgt := 527) hx hb dL_law_33 (by rw [h9]; decide) (by rw [h9]; decide) (by rw [h9]; decide +kernel) (by decide) ?_
        exact law_case_11 l C ST hO hoX hoM hP hM hS IX IM IT IL hx0 hxL hL hl kk
      · refine lv_tableIn (off := 537) (tgt := 570) hx hb dL_law_33 (by rw [h9]; decide) (by rw [h9]; decide) (by rw [h9]; decide +kernel) (by decide) ?_
        exact law_case_12 l C ST hO hoX hoM hP hM hS IX IM IT IL hx0 hxL hL hl kk
      · refine lv_tableIn (off := 570) (tgt := 603) hx hb dL_law_33 (by rw [h9]; decide) (by rw [h9]; decide) (by rw [h9]; decide +kernel) (by decide) ?_
        exact law_case_13 l C ST hO hoX hoM hP hM hS IX IM IT IL hx0 hxL hL hl kk
      · refine lv_tableIn (off := 593) (tgt := 626) hx hb dL_law_33 (by rw [h9]; decide) (by rw [h9]; decide) (by rw [h9]; decide +kernel) (by decide) ?_
        exact law_case_14 l C ST hO hoX hoM hP hM hS IX IM IT IL hx0 hxL hL hl kk
      · refine lv_tableIn (off := 626) (tgt := 659) hx hb dL_law_33 (by rw [h9]; decide) (by rw [h9]; decide) (by rw [h9]; decide +kernel) (by decide) ?_
        exact law_case_15 l C ST hO hoX hoM hP hM hS IX IM IT IL hx0 hxL hL hl kk
      · refine lv_tableIn (off := 659) (tgt := 692) hx hb dL_law_33 (by rw [h9]; decide) (by rw [h9]; decide) (by rw [h9]; decide +kernel) (by decide) ?_
        exact law_case_16 l C ST hO hoX hoM hP hM hS IX IM IT IL hx0 hxL hL hl kk
      · refine lv_tableIn (off := 682) (tgt := 715) hx hb dL_law_33 (by rw [h9]; decide) (by rw [h9]; decide) (by rw [h9]; decide +kernel) (by decide) ?_
        exact law_case_17 l C ST hO hoX hoM hP hM hS IX IM IT IL hx0 hxL hL hl kk
      · refine lv_tableIn (off := 715) (tgt := 748) hx hb dL_law_33 (by rw [h9]; decide) (by rw [h9]; decide) (by rw [h9]; decide +kernel) (by decide) ?_
        exact law_case_18 l C ST hO hoX hoM hP hM hS IX IM IT IL hx0 hxL hL hl kk
      · refine lv_tableIn (off := 728) (tgt := 761) hx hb dL_law_33 (by rw [h9]; decide) (by rw [h9]; decide) (by rw [h9]; decide +kernel) (by decide) ?_
        exact law_case_19 l C ST hO hoX hoM hP hM hS IX IM IT IL hx0 hxL hL hl kk
      · refine lv_tableIn (off := 741) (tgt := 774) hx hb dL_law_33 (by rw [h9]; decide) (by rw [h9]; decide) (by rw [h9]; decide +kernel) (by decide) ?_
        exact law_case_20 l C ST hO hoX hoM hP hM hS IX IM IT IL hx0 hxL hL hl kk
      · refine lv_tableIn (off := 764) (tgt := 797) hx hb dL_law_33 (by rw [h9]; decide) (by rw [h9]; decide) (by rw [h9]; decide +kernel) (by decide) ?_
        exact law_case_21 l C ST hO hoX hoM hP hM hS IX IM IT IL hx0 hxL hL hl kk
      · refine lv_tableIn (off := 787) (tgt := 820) hx hb dL_law_33 (by rw [h9]; decide) (by rw [h9]; decide) (by rw [h9]; decide +kernel) (by decide) ?_
        exact law_case_22 l C ST hO hoX hoM hP hM hS IX IM IT IL hx0 hxL hL hl kk
      · refine lv_tableIn (off := 810) (tgt := 843) hx hb dL_law_33 (by rw [h9]; decide) (by rw [h9]; decide) (by rw [h9]; decide +kernel) (by decide) ?_
        exact law_case_23 l C ST hO hoX hoM hP hM hS IX IM IT IL hx0 hxL hL hl kk
      · refine lv_tableIn (off := 853) (tgt := 886) hx hb dL_law_33 (by rw [h9]; decide) (by rw [h9]; decide) (by rw [h9]; decide +kernel) (by decide) ?_
        exact law_case_24 l C ST hO hoX hoM hP hM hS IX IM IT IL hx0 hxL hL hl kk
      · refine lv_tableIn (off := 906) (tgt := 939) hx hb dL_law_33 (by rw [h9]; decide) (by rw [h9]; decide) (by rw [h9]; decide +kernel) (by decide) ?_
        exact law_case_25 l C ST hO hoX hoM hP hM hS IX IM IT IL hx0 hxL hL hl kk
      · refine lv_tableIn (off := 929) (tgt := 962) hx hb dL_law_33 (by rw [h9]; decide) (by rw [h9]; decide) (by rw [h9]; decide +kernel) (by decide) ?_
        exact law_case_26 l C ST hO hoX hoM hP hM hS IX IM IT IL hx0 hxL hL hl kk
      · refine lv_tableIn (off := 952) (tgt := 985) hx hb dL_law_33 (by rw [h9]; decide) (by rw [h9]; decide) (by rw [h9]; decide +kernel) (by decide) ?_
        exact law_case_27 l C ST hO hoX hoM hP hM hS IX IM IT IL hx0 hxL hL hl kk
      · refine lv_tableIn (off := 965) (tgt := 998) hx hb dL_law_33 (by rw [h9]; decide) (by rw [h9]; decide) (by rw [h9]; decide +kernel) (by decide) ?_
        exact law_case_28 l C ST hO hoX hoM hP hM hS IX IM IT IL hx0 hxL hL hl kk
      · refine lv_tableIn (off := 988) (tgt := 1021) hx hb dL_law_33 (by rw [h9]; decide) (by rw [h9]; decide) (by rw [h9]; decide +kernel) (by decide) ?_
        exact law_case_29 l C ST hO hoX hoM hP hM hS IX IM IT IL hx0 hxL hL hl kk
      · refine lv_tableIn (off := 1021) (tgt := 1054) hx hb dL_law_33 (by rw [h9]; decide) (by rw [h9]; decide) (by rw [h9]; decide +kernel) (by decide) ?_
        exact law_case_30 l C ST hO hoX hoM hP hM hS IX IM IT IL hx0 hxL hL hl kk
      · refine lv_tableIn (off := 1034) (tgt := 1067) hx hb dL_law_33 (by rw [h9]; decide) (by rw [h9]; decide) (by rw [h9]; decide +kernel) (by decide) ?_
        exact law_case_31 l C ST hO hoX hoM hP hM hS IX IM IT IL hx0 hxL hL hl kk
      · refine lv_tableIn (off := 1057) (tgt := 1090) hx hb dL_law_33 (by rw [h9]; decide) (by rw [h9]; decide) (by rw [h9]; decide +kernel) (by decide) ?_
        exact law_case_32 l C ST hO hoX hoM hP hM hS IX IM IT IL hx0 hxL hL hl kk
      · refine lv_tableIn (off := 1070) (tgt := 1103) hx hb dL_law_33 (by rw [h9]; decide) (by rw [h9]; decide) (by rw [h9]; decide +kernel) (by decide) ?_
        exact law_case_33 l C ST hO hoX hoM hP hM hS IX IM IT IL hx0 hxL hL hl kk
  