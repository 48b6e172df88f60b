/-! 25.l4.lean.txt -/
set_option maxHeartbeats 8000000 in
set_option maxRecDepth 100000 in
theorem c_rd_passOpening_3 (l : Launch) (g : Nat → ClassId) (D : va_G) (o : Nat) (S : dg_S) (en : Int32) (n0 : Int32) (f_n0 : S.1 209 4 = .int n0) (b_n0 : 0 ≤ (n0).toInt ∧ (n0).toInt ≤ 1600) (ke : Int32) (f_ke : S.2.1 211 (en : Int32).toNatClampNeg = ke) (b_ke : 0 ≤ (ke).toInt ∧ (ke).toInt ≤ 0) (hne : (n0).toInt ≤ (en).toInt ∧ (en).toInt ≤ 1600 ∧ 0 ≤ (en).toInt) (I : CX o S) (sz : Nat) : Met l yX6_passOpening (bw yX6_passOpening cX6_passOpening 2 (some .boolean)) ({ frames := 2, cells := 0, slots := 0, locals := 52 } : Room) (dk_Pc g D (dg_w g shX o rfX S) sz [.ref (o + 209), .int 3]) (va_Qi (fun (r : Int32) S' => CX o S' ∧ dg_sm shX [(31, 4)] [] S S' ∧ (1 ≤ (r).toInt ∧ (r).toInt ≤ 1) ∧ (∃ y9 : Int32, S'.1 209 4 = .int y9 ∧ ((y9).toInt ≤ (en).toInt)) ∧ True) (dg_B g D shX o rfX) (dg_A o shX.length sz)) 0 0 (dg_A o shX.length sz) := by
  refine dg_met (cc := cX6_passOpening) (maxL := 2) (ret := (some .boolean)) (by decide) rfl (Nat.le_of_ble_eq_true rfl) ?_
  intro p e s m args below meth c A hAe harg hx hb hr hml hts hown hlocks hin hP K hS hA1 hA ST hsz ls hl
  rw [← hAe]
  have F : CallFix p m c cX6_passOpening 2 s args (bw yX6_passOpening cX6_passOpening 2 (some .boolean)) RX6 := ⟨hx, hb, hml, hown, hts⟩
  have hl : lv_has ls 2 [(0, .ref (o + 209)), (1, .int 3)] := hl
  have M_0 : dg_sm shX [(31, 4)] [] S S := dg_sm.rf
  refine lv_iload_n hx hb dX6_passOpening_0 rfl (lv_at hl 1 rfl) ?_
  refine lv_bipush (v := 7) hx hb dX6_passOpening_1 (by decide +kernel) ?_
  refine lv_icmp_lt (tgt := 12) hx hb dX6_passOpening_3 (by decide) (fun _ => ?_) (fun c => absurd (by decide +kernel) c)
  refine lv_aload_n hx hb dX6_passOpening_12 rfl (lv_at hl 0 rfl) ?_
  refine dg_callv hS hA1 hA (va_runV (As := []) (rest := []) F (c_rd_pass l g D o S en n0 f_n0 (by omega) ke f_ke (by omega) (by omega) I s.heap.size) (cwV 0 hts (bw_V wB_686 wB_687 wB_688 wB_684 wB_685) rfl rfl rfl (by decide +kernel) ⟨Nat.le_of_ble_eq_true rfl, Nat.le_of_ble_eq_true rfl⟩) (dg_preV sX_209 rfl K ST hP hS hA1 hA) rfl rfl hl.1 rfl (lv_room (Nat.le_of_ble_eq_true rfl)) dX6_passOpening_13 ⟨Nat.le_of_ble_eq_true rfl, Nat.le_of_ble_eq_true rfl⟩) (fun S_1 hw_1 H locs hP hS => ?_)
  obtain ⟨I_1, m_1, w_1_0, -⟩ := hw_1
  have M_1 := dg_sm.tr M_0 m_1 (by decide) (by decide)
  obtain ⟨y_2, f_y_2, w_1_0⟩ := w_1_0
  have w_1_0 : (y_2).toInt ≤ (en).toInt := w_1_0
  have b_y_2 : 0 ≤ (y_2).toInt ∧ (y_2).toInt ≤ 1600 := dg_I.intb (lo := 0) (hi := 1600) I_1 sX_209 (by decide +kernel) f_y_2
  refine lv_iconst (v := 1) hx hb dX6_passOpening_16 (by decide +kernel) ?_
  have hz_3 : (1 : Int32).toInt = 1 := by decide +kernel
  have hz_4 : (1 : Int32).toInt = 1 := by decide +kernel
  refine W.widen (k := 0) (n := 0) (Nat.le_of_ble_eq_true rfl) (Nat.le_of_ble_eq_true rfl) ?_
  exact dg_iret hx hb hr hlocks (by decide +kernel) hP hS ⟨I_1, M_1, (by decide +kernel), ⟨y_2, f_y_2, (by omega)⟩, trivial⟩ dX6_passOpening_17
set_option maxHeartbeats 8000000 in
set_option maxRecDepth 100000 in
theorem c_rd_takeOpening_3 (l : Launch) (g : Nat → ClassId) (D : va_G) (o : Nat) (S : dg_S) (en : Int32) (n0 : Int32) (f_n0 : S.1 209 4 = .int n0) (b_n0 : 0 ≤ (n0).toInt ∧ (n0).toInt ≤ 1600) (ke : Int32) (f_ke : S.2.1 211 (en : Int32).toNatClampNeg = ke) (b_ke : 0 ≤ (ke).toInt ∧ (ke).toInt ≤ 0) (hne : (n0).toInt ≤ (en).toInt ∧ (en).toInt ≤ 1600 ∧ 0 ≤ (en).toInt) (I : CX o S) (sz : Nat) : Met l yX6_takeOpening (bw yX6_takeOpening cX6_takeOpening 2 (some .boolean)) ({ frames := 3, cells := 0, slots := 0, locals := 73 } : Room) (dk_Pc g D (dg_w g shX o rfX S) sz [.ref (o + 209), .int 3]) (va_Qi (fun (r : Int32) S' => CX o S' ∧ dg_sm shX [(31, 0), (31, 1), (31, 4)] [] S S' ∧ (0 ≤ (r).toInt ∧ (r).toInt ≤ 1) ∧ (∃ y9 : Int32, S'.1 209 4 = .int y9 ∧ ((y9).toInt ≤ (en).toInt)) ∧ True) (dg_B g D shX o rfX) (dg_A o shX.length sz)) 0 0 (dg_A o shX.length sz) := by
  refine dg_met (cc := cX6_takeOpening) (maxL := 2) (ret := (some .boolean)) (by decide) rfl (Nat.le_of_ble_eq_true rfl) ?_
  intro p e s m args below meth c A hAe harg hx hb hr hml hts hown hlocks hin hP K hS hA1 hA ST hsz ls hl
  rw [← hAe]
  have F : CallFix p m c cX6_takeOpening 2 s args (bw yX6_takeOpening cX6_takeOpening 2 (some .boolean)) RX6 := ⟨hx, hb, hml, hown, hts⟩
  have hl : lv_has ls 2 [(0, .ref (o + 209)), (1, .int 3)] := hl
  have M_0 : dg_sm shX [(31, 0), (31, 1), (31, 4)] [] S S := dg_sm.rf
  refine lv_aload_n hx hb dX6_takeOpening_0 rfl (lv_at hl 0 rfl) ?_
  refine lv_bipush (v := 40) hx hb dX6_takeOpening_1 (by decide +kernel) ?_
  refine dg_calli hS hA1 hA (va_runV (As := [.int 40]) (rest := []) F (c_rd_isSign l g D o S 40 en n0 f_n0 (by omega) ke f_ke (by omega) (by omega) I s.heap.size) (cwV 1 hts (bw_V wB_694 wB_695 wB_696 wB_684 wB_693) rfl rfl rfl (by decide +kernel) ⟨Nat.le_of_ble_eq_true rfl, Nat.le_of_ble_eq_true rfl⟩) (dg_preV sX_209 rfl K ST hP hS hA1 hA) rfl rfl hl.1 rfl (lv_room (Nat.le_of_ble_eq_true rfl)) dX6_takeOpening_3 ⟨Nat.le_of_ble_eq_true rfl, Nat.le_of_ble_eq_true rfl⟩) (fun x_1 S_2 hw_2 H locs hP hS => ?_)
  rw [hw_2.1] at hP
  obtain ⟨hq_2, w_2_0, -⟩ := hw_2
  have w_2_0 : 0 ≤ (x_1).toInt ∧ (x_1).toInt ≤ 1 := w_2_0
  refine lv_if_eq (tgt := 17) hx hb dX6_takeOpening_6 (by decide) (fun c_3 => ?_) (fun c_3 => ?_)
  · have jc_3 := dk_eqc (k := 0) (by decide +kernel) c_3
    refine lv_aload_n hx hb dX6_takeOpening_17 rfl (lv_at hl 0 rfl) ?_
    refine lv_iconst (v := 1) hx hb dX6_takeOpening_18 (by decide +kernel) ?_
    refine dg_calli hS hA1 hA (va_runV (As := [.int 1]) (rest := []) F (c_rd_fail l g D o S 1 en n0 f_n0 (by omega) ke f_ke (by omega) (by omega) I H.size) (cwV 1 hts (bw_V wB_690 wB_691 wB_692 wB_684 wB_689) rfl rfl rfl (by decide +kernel) ⟨Nat.le_of_ble_eq_true rfl, Nat.le_of_ble_eq_true rfl⟩) (dg_preV sX_209 rfl K ST hP hS hA1 hA) rfl rfl hl.1 rfl (lv_room (Nat.le_of_ble_eq_true rfl)) dX6_takeOpening_19 ⟨Nat.le_of_ble_eq_true rfl, Nat.le_of_ble_eq_true rfl⟩) (fun x_4 S_5 hw_5 H locs hP hS => ?_)
    obtain ⟨I_5, m_5, w_5_0, -⟩ := hw_5
    have M_5 := dg_sm.tr M_0 m_5 (by decide) (by decide)
    have w_5_0 : 0 ≤ (x_4).toInt ∧ (x_4).toInt ≤ 0 := w_5_0
    refine W.widen (k := 0) (n := 0) (Nat.le_of_ble_eq_true rfl) (Nat.le_of_ble_eq_true rfl) ?_
    exact dg_iret hx hb hr hlocks (dk_znar (by omega) (by omega)) hP hS ⟨I_5, M_5, (by omega), ⟨n0, ((m_5.1 209 4 _ sX_209 (by decide)).trans f_n0), (by omega)⟩, trivial⟩ dX6_takeOpening_22
  · have jc_3 := dk_neqc (k := 0) (by decide +kernel) c_3
    refine lv_aload_n hx hb dX6_takeOpening_9 rfl (lv_at hl 0 rfl) ?_
    refine lv_iload_n hx hb dX6_takeOpening_10 rfl (lv_at hl 1 rfl) ?_
    refine dg_calli hS hA1 hA (va_runV (As := [.int 3]) (rest := []) F (c_rd_passOpening_3 l g D o S en n0 f_n0 (by omega) ke f_ke (by omega) (by omega) I H.size) (cwV 1 hts (bw_V wB_745 wB_746 wB_747 wB_684 wB_744) rfl rfl rfl (by decide +kernel) ⟨Nat.le_of_ble_eq_true rfl, Nat.le_of_ble_eq_true rfl⟩) (dg_preV sX_209 rfl K ST hP hS hA1 hA) rfl rfl hl.1 rfl (lv_room (Nat.le_of_ble_eq_true rfl)) dX6_takeOpening_11 ⟨Nat.le_of_ble_eq_true rfl, Nat.le_of_ble_eq_true rfl⟩) (fun x_6 S_7 hw_7 H locs hP hS => ?_)
    obtain ⟨I_7, m_7, w_7_0, w_7_1, -⟩ := hw_7
    have M_7 := dg_sm.tr M_0 m_7 (by decide) (by decide)
    have w_7_0 : 1 ≤ (x_6).toInt ∧ (x_6).toInt ≤ 1 := w_7_0
    obtain ⟨y_8, f_y_8, w_7_1⟩ := w_7_1
    have w_7_1 : (y_8).toInt ≤ (en).toInt := w_7_1
    have b_y_8 : 0 ≤ (y_8).toInt ∧ (y_8).toInt ≤ 1600 := dg_I.intb (lo := 0) (hi := 1600) I_7 sX_209 (by decide +kernel) f_y_8
    refine lv_goto (tgt := 22) hx hb dX6_takeOpening_14 (by decide) ?_
    refine W.widen (k := 0) (n := 0) (Nat.le_of_ble_eq_true rfl) (Nat.le_of_ble_eq_true rfl) ?_
    exact dg_iret hx hb hr hlocks (dk_znar (by omega) (by omega)) hP hS ⟨I_7, M_7, (by omega), ⟨y_8, f_y_8, (by omega)⟩, trivial⟩ dX6_takeOpening_22
set_option maxHeartbeats 8000000 in
set_option maxRecDepth 100000 in
theorem c_rd_readChoice_3 (l : Launch) (g : Nat → ClassId) (D : va_G) (o : Nat) (S : dg_S) (en : Int32) (n0 : Int32) (f_n0 : S.1 209 4 = .int n0) (b_n0 : 0 ≤ (n0).toInt ∧ (n0).toInt ≤ 1600) (ke : Int32) (f_ke : S.2.1 211 (en : Int32).toNatClampNeg = ke) (b_ke : 0 ≤ (ke).toInt ∧ (ke).toInt ≤ 0) (hne : (n0).toInt ≤ (en).toInt ∧ (en).toInt ≤ 1600 ∧ 0 ≤ (en).toInt) (I : CX o S) (sz : Nat) : Met l yX6_readChoice (bw yX6_readChoice cX6_readChoice 3 (some .boolean)) ({ frames := 36, cells := 0, slots := 0, locals := 829 } : Room) (dk_Pc g D (dg_w g shX o rfX S) sz [.ref (o + 209), .int 3]) (va_Qi (fun (r : Int32) S' => CX o S' ∧ dg_sm shX [(31, 0), (31, 1), (31, 4), (31, 7)] [28] S S' ∧ (0 ≤ (r).toInt ∧ (r).toInt ≤ 1) ∧ (∃ y9 : Int32, S'.1 209 4 = .int y9 ∧ ((y9).toInt ≤ (en).toInt)) ∧ True) (dg_B g D shX o rfX) (dg_A o shX.length sz)) 0 0 (dg_A o shX.length sz) := by
  refine dg_met (cc := cX6_readChoice) (maxL := 3) (ret := (some .boolean)) (by decide) rfl (Nat.le_of_ble_eq_true rfl) ?_
  intro p e s m args below meth c A hAe harg hx hb hr hml hts hown hlocks hin hP K hS hA1 hA ST hsz ls hl
  rw [← hAe]
  have F : CallFix p m c cX6_readChoice 3 s args (bw yX6_readChoice cX6_readChoice 3 (some .boolean)) RX6 := ⟨hx, hb, hml, hown, hts⟩
  have hl : lv_has ls 3 [(0, .ref (o + 209)), (1, .int 3)] := hl
  have M_0 : dg_sm shX [(31, 0), (31, 1), (31, 4), (31, 7)] [28] S S := dg_sm.rf
  refine lv_aload_n hx hb dX6_readChoice_0 rfl (lv_at hl 0 rfl) ?_
  refine dg_callv hS hA1 hA (va_runV (As := []) (rest := []) F (c_rd_pass l g D o S en n0 f_n0 (by omega) ke f_ke (by omega) (by omega) I s.heap.size) (cwV 0 hts (bw_V wB_686 wB_687 wB_688 wB_684 wB_685) rfl rfl rfl (by decide +kernel) ⟨Nat.le_of_ble_eq_true rfl, Nat.le_of_ble_eq_true rfl⟩) (dg_preV sX_209 rfl K ST hP hS hA1 hA) rfl rfl hl.1 rfl (lv_room (Nat.le_of_ble_eq_true rfl)) dX6_readChoice_1 ⟨Nat.le_of_ble_eq_true rfl, Nat.le_of_ble_eq_true rfl⟩) (fun S_1 hw_1 H locs hP hS => ?_)
  obtain ⟨I_1, m_1, w_1_0, -⟩ := hw_1
  have M_1 := dg_sm.tr M_0 m_1 (by decide) (by decide)
  obtain ⟨y_2, f_y_2, w_1_0⟩ := w_1_0
  have w_1_0 : (y_2).toInt ≤ (en).toInt := w_1_0
  have b_y_2 : 0 ≤ (y_2).toInt ∧ (y_2).toInt ≤ 1600 := dg_I.intb (lo := 0) (hi := 1600) I_1 sX_209 (by decide +kernel) f_y_2
  refine lv_aload_n hx hb dX6_readChoice_4 rfl (lv_at hl 0 rfl) ?_
  refine lv_iload_n hx hb dX6_readChoice_5 rfl (lv_at hl 1 rfl) ?_
  refine dg_calli hS hA1 hA (va_runV (As := [.int 3]) (rest := []) F (c_rd_takeOpening_3 l g D o S_1 en y_2 f_y_2 (by omega) ke ((congrFun (m_1.2 211 _ sX_211 (by decide)).1 _).trans f_ke) (by omega) (by omega) I_1 H.size) (cwV 1 hts (bw_V wB_749 wB_750 wB_751 wB_684 wB_748) rfl rfl rfl (by decide +kernel) ⟨Nat.le_of_ble_eq_true rfl, Nat.le_of_ble_eq_true rfl⟩) (dg_preV sX_209 rfl K ST hP hS hA1 hA) rfl rfl hl.1 rfl (lv_room (Nat.le_of_ble_eq_true rfl)) dX6_readChoice_6 ⟨Nat.le_of_ble_eq_true rfl, Nat.le_of_ble_eq_true rfl⟩) (fun x_3 S_4 hw_4 H locs hP hS => ?_)
  obtain ⟨I_4, m_4, w_4_0, w_4_1, -⟩ := hw_4
  have M_4 := dg_sm.tr M_1 m_4 (by decide) (by decide)
  have w_4_0 : 0 ≤ (x_3).toInt ∧ (x_3).toInt ≤ 1 := w_4_0
  obtain ⟨y_5, f_y_5, w_4_1⟩ := w_4_1
  have w_4_1 : (y_5).toInt ≤ (en).toInt := w_4_1
  have b_y_5 : 0 ≤ (y_5).toInt ∧ (y_5).toInt ≤ 1600 := dg_I.intb (lo := 0) (hi := 1600) I_4 sX_209 (by decide +kernel) f_y_5
  refine lv_if_eq (tgt := 73) hx hb dX6_readChoice_9 (by decide) (fun c_6 => ?_) (fun c_6 => ?_)
  · have jc_6 := dk_eqc (k := 0) (by decide +kernel) c_6
    refine lv_iconst (v := 0) hx hb dX6_readChoice_73 (by decide +kernel) ?_
    refine lv_istore_n (lv' := [(2, .int 0), (0, .ref (o + 209)), (1, .int 3)]) hx hb dX6_readChoice_74 rfl hl (by decide) rfl (fun ls hl => ?_)
    refine lv_aload_n hx hb dX6_readChoice_75 rfl (lv_at hl 1 rfl) ?_
    refine lv_bipush (v := (-9)) hx hb dX6_readChoice_76 (by decide +kernel) ?_
    refine dg_callv hS hA1 hA (va_runV (As := [.int (-9)]) (rest := []) F (c_rd_put l g D o S_4 (-9) en y_5 f_y_5 (by omega) ke ((congrFun ((m_4.2 211 _ sX_211 (by decide)).1.trans (m_1.2 211 _ sX_211 (by decide)).1) _).trans f_ke) (by omega) (by omega) I_4 H.size) (cwV 1 hts (bw_V wB_753 wB_754 wB_755 wB_684 wB_752) rfl rfl rfl (by decide +kernel) ⟨Nat.le_of_ble_eq_true rfl, Nat.le_of_ble_eq_true rfl⟩) (dg_preV sX_209 rfl K ST hP hS hA1 hA) rfl rfl hl.1 rfl (lv_room (Nat.le_of_ble_eq_true rfl)) dX6_readChoice_78 ⟨Nat.le_of_ble_eq_true rfl, Nat.le_of_ble_eq_true rfl⟩) (fun S_7 hw_7 H locs hP hS => ?_)
    obtain ⟨I_7, m_7, -⟩ := hw_7
    have M_7 := dg_sm.tr M_4 m_7 (by decide) (by decide)
    refine lv_iload_n hx hb dX6_readChoice_81 rfl (lv_at hl 0 rfl) ?_
    have hz_8 : (0 : Int32).toInt = 0 := by decide +kernel
    have hz_9 : (0 : Int32).toInt = 0 := by decide +kernel
    refine W.widen (k := 0) (n := 0) (Nat.le_of_ble_eq_true rfl) (Nat.le_of_ble_eq_true rfl) ?_
    exact dg_iret hx hb hr hlocks (by decide +kernel) hP hS ⟨I_7, M_7, (by decide +kernel), ⟨y_5, ((m_7.1 209 4 _ sX_209 (by decide)).trans f_y_5), (by omega)⟩, trivial⟩ dX6_readChoice_82
  · have jc_6 := dk_neqc (k := 0) (by decide +kernel) c_6
    refine lv_aload_n hx hb dX6_readChoice_12 rfl (lv_at hl 0 rfl) ?_
    refine lv_iload_n hx hb dX6_readChoice_13 rfl (lv_at hl 1 rfl) ?_
    refine lv_iconst (v := 1) hx hb dX6_readChoice_14 (by decide +kernel) ?_
    refine lv_iadd hx hb dX6_readChoice_15 ?_
    refine dk_top (y := 4) (by decide +kernel) ?_
    refine dg_calli hS hA1 hA (va_runV (As := [.int 4]) (rest := []) F (c_rd_readTest_4 l g D o S_4 en y_5 f_y_5 (by omega) ke ((congrFun ((m_4.2 211 _ sX_211 (by decide)).1.trans (m_1.2 211 _ sX_211 (by decide)).1) _).trans f_ke) (by omega) (by omega) I_4 H.size) (cwV 1 hts (bw_V wB_805 wB_806 wB_807 wB_684 wB_804) rfl rfl rfl (by decide +kernel) ⟨Nat.le_of_ble_eq_true rfl, Nat.le_of_ble_eq_true rfl⟩) (dg_preV sX_209 rfl K ST hP hS hA1 hA) rfl rfl hl.1 rfl (lv_room (Nat.le_of_ble_eq_true rfl)) dX6_readChoice_16 ⟨Nat.le_of_ble_eq_true rfl, Nat.le_of_ble_eq_true rfl⟩) (fun x_10 S_11 hw_11 H locs hP hS => ?_)
    obtain ⟨I_11, m_11, w_11_0, w_11_1, -⟩ := hw_11
    have M_11 := dg_sm.tr M_4 m_11 (by decide) (by decide)
    have w_11_0 : 0 ≤ (x_10).toInt ∧ (x_10).toInt ≤ 1 := w_11_0
    obtain ⟨y_12, f_y_12, w_11_1⟩ := w_11_1
    have w_11_1 : (y_12).toInt ≤ (en).toInt := w_11_1
    have b_y_12 : 0 ≤ (y_12).toInt ∧ (y_12).toInt ≤ 1600 := dg_I.intb (lo := 0) (hi := 1600) I_11 sX_209 (by decide +kernel) f_y_12
    refine lv_if_eq (tgt := 73) hx hb dX6_readChoice_19 (by decide) (fun c_13 => ?_) (fun c_13 => ?_)
    · have jc_13 := dk_eqc (k := 0) (by decide +kernel) c_13
      refine lv_iconst (v := 0) hx hb dX6_readChoice_73 (by decide +kernel) ?_
      refine lv_istore_n (lv' := [(2, .int 0), (0, .ref (o + 209)), (1, .int 3)]) hx hb dX6_readChoice_74 rfl hl (by decide) rfl (fun ls hl => ?_)
      refine lv_aload_n hx hb dX6_readChoice_75 rfl (lv_at hl 1 rfl) ?_
      refine lv_bipush (v := (-9)) hx hb dX6_readChoice_76 (by decide +kernel) ?_
      refine dg_callv hS hA1 hA (va_runV (As := [.int (-9)]) (rest := []) F (c_rd_put l g D o S_11 (-9) en y_12 f_y_12 (by omega) ke ((congrFun ((m_11.2 211 _ sX_211 (by decide)).1.trans ((m_4.2 211 _ sX_211 (by decide)).1.trans (m_1.2 211 _ sX_211 (by decide)).1)) _).trans f_ke) (by omega) (by omega) I_11 H.size) (cwV 1 hts (bw_V wB_753 wB_754 wB_755 wB_684 wB_752) rfl rfl rfl (by decide +kernel) ⟨Nat.le_of_ble_eq_true rfl, Nat.le_of_ble_eq_true rfl⟩) (dg_preV sX_209 rfl K ST hP hS hA1 hA) rfl rfl hl.1 rfl (lv_room (Nat.le_of_ble_eq_true rfl)) dX6_readChoice_78 ⟨Nat.le_of_ble_eq_true rfl, Nat.le_of_ble_eq_true rfl⟩) (fun S_14 hw_14 H locs hP hS => ?_)
      obtain ⟨I_14, m_14, -⟩ := hw_14
      have M_14 := dg_sm.tr M_11 m_14 (by decide) (by decide)
      refine lv_iload_n hx hb dX6_readChoice_81 rfl (lv_at hl 0 rfl) ?_
      have hz_15 : (0 : Int32).toInt = 0 := by decide +kernel
      have hz_16 : (0 : Int32).toInt = 0 := by decide +kernel
      refine W.widen (k := 0) (n := 0) (Nat.le_of_ble_eq_true rfl) (Nat.le_of_ble_eq_true rfl) ?_
      exact dg_iret hx hb hr hlocks (by decide +kernel) hP hS ⟨I_14, M_14, (by decide +kernel), ⟨y_12, ((m_14.1 209 4 _ sX_209 (by decide)).trans f_y_12), (by omega)⟩, trivial⟩ dX6_readChoice_82
    · have jc_13 := dk_neqc (k := 0) (by decide +kernel) c_13
      refine lv_aload_n hx hb dX6_readChoice_22 rfl (lv_at hl 0 rfl) ?_
      refine lv_bipush (v := 44) hx hb dX6_readChoice_23 (by decide +kernel) ?_
      refine dg_calli hS hA1 hA (va_runV (As := [.int 44]) (rest := []) F (c_rd_takeSign l g D o S_11 44 en y_12 f_y_12 (by omega) ke ((congrFun ((m_11.2 211 _ sX_211 (by decide)).1.trans ((m_4.2 211 _ sX_211 (by decide)).1.trans (m_1.2 211 _ sX_211 (by decide)).1)) _).trans f_ke) (by omega) (by omega) I_11 H.size) (cwV 1 hts (bw_V wB_809 wB_810 wB_811 wB_684 wB_808) rfl rfl rfl (by decide +kernel) ⟨Nat.le_of_ble_eq_true rfl, Nat.le_of_ble_eq_true rfl⟩) (dg_preV sX_209 rfl K ST hP hS hA1 hA) rfl rfl hl.1 rfl (lv_room (Nat.le_of_ble_eq_true rfl)) dX6_readChoice_25 ⟨Nat.le_of_ble_eq_true rfl, Nat.le_of_ble_eq_true rfl⟩) (fun x_17 S_18 hw_18 H locs hP hS => ?_)
      obtain ⟨I_18, m_18, w_18_0, w_18_1, -⟩ := hw_18
      have M_18 := dg_sm.tr M_11 m_18 (by decide) (by decide)
      have hz_19 : (44 : Int32).toInt = 44 := by decide +kernel
      have w_18_0 : 0 ≤ (x_17).toInt ∧ (x_17).toInt ≤ 1 := w_18_0
      obtain ⟨y_20, f_y_20, w_18_1⟩ := w_18_1
      have w_18_1 : (y_20).toInt ≤ (en).toInt := w_18_1
      have b_y_20 : 0 ≤ (y_20).toInt ∧ (y_20).toInt ≤ 1600 := dg_I.intb (lo := 0) (hi := 1600) I_18 sX_209 (by decide +kernel) f_y_20
      refine lv_if_eq (tgt := 73) hx hb dX6_readChoice_28 (by decide) (fun c_21 => ?_) (fun c_21 => ?_)
      · have jc_21 := dk_eqc (k := 0) (by decide +kernel) c_21
        refine lv_iconst (v := 0) hx hb dX6_readChoice_73 (by decide +kernel) ?_
        refine lv_istore_n (lv' := [(2, .int 0), (0, .ref (o + 209)), (1, .int 3)]) hx hb dX6_readChoice_74 rfl hl (by decide) rfl (fun ls hl => ?_)
        refine lv_aload_n hx hb dX6_readChoice_75 rfl (lv_at hl 1 rfl) ?_
        refine lv_bipush (v := (-9)) hx hb dX6_readChoice_76 (by decide +kernel) ?_
        refine dg_callv hS hA1 hA (va_runV (As := [.int (-9)]) (rest := []) F (c_rd_put l g D o S_18 (-9) en y_20 f_y_20 (by omega) ke ((congrFun ((m_18.2 211 _ sX_211 (by decide)).1.trans ((m_11.2 211 _ sX_211 (by decide)).1.trans ((m_4.2 211 _ sX_211 (by decide)).1.trans (m_1.2 211 _ sX_211 (by decide)).1))) _).trans f_ke) (by omega) (by omega) I_18 H.size) (cwV 1 hts (bw_V wB_753 wB_754 wB_755 wB_684 wB_752) rfl rfl rfl (by decide +kernel) ⟨Nat.le_of_ble_eq_true rfl, Nat.le_of_ble_eq_true rfl⟩) (dg_preV sX_209 rfl K ST hP hS hA1 hA) rfl rfl hl.1 rfl (lv_room (Nat.le_of_ble_eq_true rfl)) dX6_readChoice_78 ⟨Nat.le_of_ble_eq_true rfl, Nat.le_of_ble_eq_true rfl⟩) (fun S_22 hw_22 H locs hP hS => ?_)
        obtain ⟨I_22, m_22, -⟩ := hw_22
        have M_22 := dg_sm.tr M_18 m_22 (by decide) (by decide)
        refine lv_iload_n hx hb dX6_readChoice_81 rfl (lv_at hl 0 rfl) ?_
        have hz_23 : (0 : Int32).toInt = 0 := by decide +kernel
        have hz_24 : (0 : Int32).toInt = 0 := by decide +kernel
        refine W.widen (k := 0) (n := 0) (Nat.le_of_ble_eq_true rfl) (Nat.le_of_ble_eq_true rfl) ?_
        exact dg_iret hx hb hr hlocks (by decide +kernel) hP hS ⟨I_22, M_22, (by decide +kernel), ⟨y_20, ((m_22.1 209 4 _ sX_209 (by decide)).trans f_y_20), (by omega)⟩, trivial⟩ dX6_readChoice_82
      · have jc_21 := dk_neqc (k := 0) (by decide +kernel) c_21
        refine lv_aload_n hx hb dX6_readChoice_31 rfl (lv_at hl 0 rfl) ?_
        refine lv_iload_n hx hb dX6_readChoice_32 rfl (lv_at hl 1 rfl) ?_
        refine lv_iconst (v := 1) hx hb dX6_readChoice_33 (by decide +kernel) ?_
        refine lv_iadd hx hb dX6_readChoice_34 ?_
        refine dk_top (y := 4) (by decide +kernel) ?_
        refine dg_calli hS hA1 hA (va_runV (As := [.int 4]) (rest := []) F (c_rd_readSum_4 l g D o S_18 en y_20 f_y_20 (by omega) ke ((congrFun ((m_18.2 211 _ sX_211 (by decide)).1.trans ((m_11.2 211 _ sX_211 (by decide)).1.trans ((m_4.2 211 _ sX_211 (by decide)).1.trans (m_1.2 211 _ sX_211 (by decide)).1))) _).trans f_ke) (by omega) (by omega) I_18 H.size) (cwV 1 hts (bw_V wB_785 wB_786 wB_787 wB_684 wB_784) rfl rfl rfl (by decide +kernel) ⟨Nat.le_of_ble_eq_true rfl, Nat.le_of_ble_eq_true rfl⟩) (dg_preV sX_209 rfl K ST hP hS hA1 hA) rfl rfl hl.1 rfl (lv_room (Nat.le_of_ble_eq_true rfl)) dX6_readChoice_35 ⟨Nat.le_of_ble_eq_true rfl, Nat.le_of_ble_eq_true rfl⟩) (fun x_25 S_26 hw_26 H locs hP hS => ?_)
        obtain ⟨I_26, m_26, w_26_0, w_26_1, -⟩ := hw_26
        have M_26 := dg_sm.tr M_18 m_26 (by decide) (by decide)
        have w_26_0 : 0 ≤ (x_25).toInt ∧ (x_25).toInt ≤ 1 := w_26_0
        obtain ⟨y_27, f_y_27, w_26_1⟩ := w_26_1
        have w_26_1 : (y_27).toInt ≤ (en).toInt := w_26_1
        have b_y_27 : 0 ≤ (y_27).toInt ∧ (y_27).toInt ≤ 1600 := dg_I.intb (lo := 0) (hi := 1600) I_26 sX_209 (by decide +kernel) f_y_27
        refine lv_if_eq (tgt := 73) hx hb dX6_readChoice_38 (by decide) (fun c_28 => ?_) (fun c_28 => ?_)
        · have jc_28 := dk_eqc (k := 0) (by decide +kernel) c_28
          refine lv_iconst (v := 0) hx hb dX6_readChoice_73 (by decide +kernel) ?_
          refine lv_istore_n (lv' := [(2, .int 0), (0, .ref (o + 209)), (1, .int 3)]) hx hb dX6_readChoice_74 rfl hl (by decide) rfl (fun ls hl => ?_)
          refine lv_aload_n hx hb dX6_readChoice_75 rfl (lv_at hl 1 rfl) ?_
          refine lv_bipush (v := (-9)) hx hb dX6_readChoice_76 (by decide +kernel) ?_
          refine dg_callv hS hA1 hA (va_runV (As := [.int (-9)]) (rest := []) F (c_rd_put l g D o S_26 (-9) en y_27 f_y_27 (by omega) ke ((congrFun ((m_26.2 211 _ sX_211 (by decide)).1.trans ((m_18.2 211 _ sX_211 (by decide)).1.trans ((m_11.2 211 _ sX_211 (by decide)).1.trans ((m_4.2 211 _ sX_211 (by decide)).1.trans (m_1.2 211 _ sX_211 (by decide)).1)))) _).trans f_ke) (by omega) (by omega) I_26 H.size) (cwV 1 hts (bw_V wB_753 wB_754 wB_755 wB_684 wB_752) rfl rfl rfl (by decide +kernel) ⟨Nat.le_of_ble_eq_true rfl, Nat.le_of_ble_eq_true rfl⟩) (dg_preV sX_209 rfl K ST hP hS hA1 hA) rfl rfl hl.1 rfl (lv_room (Nat.le_of_ble_eq_true rfl)) dX6_readChoice_78 ⟨Nat.le_of_ble_eq_true rfl, Nat.le_of_ble_eq_true rfl⟩) (fun S_29 hw_29 H locs hP hS => ?_)
          obtain ⟨I_29, m_29, -⟩ := hw_29
          have M_29 := dg_sm.tr M_26 m_29 (by decide) (by decide)
          refine lv_iload_n hx hb dX6_readChoice_81 rfl (lv_at hl 0 rfl) ?_
          have hz_30 : (0 : Int32).toInt = 0 := by decide +kernel
          have hz_31 : (0 : Int32).toInt = 0 := by decide +kernel
          refine W.widen (k := 0) (n := 0) (Nat.le_of_ble_eq_true rfl) (Nat.le_of_ble_eq_true rfl) ?_
          exact dg_iret hx hb hr hlocks (by decide +kernel) hP hS ⟨I_29, M_29, (by decide +kernel), ⟨y_27, ((m_29.1 209 4 _ sX_209 (by decide)).trans f_y_27), (by omega)⟩, trivial⟩ dX6_readChoice_82
        · have jc_28 := dk_neqc (k := 0) (by decide +kernel) c_28
          refine lv_aload_n hx hb dX6_readChoice_41 rfl (lv_at hl 0 rfl) ?_
          refine lv_bipush (v := 44) hx hb dX6_readChoice_42 (by decide +kernel) ?_
          refine dg_calli hS hA1 hA (va_runV (As := [.int 44]) (rest := []) F (c_rd_takeSign l g D o S_26 44 en y_27 f_y_27 (by omega) ke ((congrFun ((m_26.2 211 _ sX_211 (by decide)).1.trans ((m_18.2 211 _ sX_211 (by decide)).1.trans ((m_11.2 211 _ sX_211 (by decide)).1.trans ((m_4.2 211 _ sX_211 (by decide)).1.trans (m_1.2 211 _ sX_211 (by decide)).1)))) _).trans f_ke) (by omega) (by omega) I_26 H.size) (cwV 1 hts (bw_V wB_809 wB_810 wB_811 wB_684 wB_808) rfl rfl rfl (by decide +kernel) ⟨Nat.le_of_ble_eq_true rfl, Nat.le_of_ble_eq_true rfl⟩) (dg_preV sX_209 rfl K ST hP hS hA1 hA) rfl rfl hl.1 rfl (lv_room (Nat.le_of_ble_eq_true rfl)) dX6_readChoice_44 ⟨Nat.le_of_ble_eq_true rfl, Nat.le_of_ble_eq_true rfl⟩) (fun x_32 S_33 hw_33 H locs hP hS => ?_)
          obtain ⟨I_33, m_33, w_33_0, w_33_1, -⟩ := hw_33
          have M_33 := dg_sm.tr M_26 m_33 (by decide) (by decide)
          have hz_34 : (44 : Int32).toInt = 44 := by decide +kernel
          have w_33_0 : 0 ≤ (x_32).toInt ∧ (x_32).toInt ≤ 1 := w_33_0
          obtain ⟨y_35, f_y_35, w_33_1⟩ := w_33_1
          have w_33_1 : (y_35).toInt ≤ (en).toInt := w_33_1
          have b_y_35 : 0 ≤ (y_35).toInt ∧ (y_35).toInt ≤ 1600 := dg_I.intb (lo := 0) (hi := 1600) I_33 sX_209 (by decide +kernel) f_y_35
          refine lv_if_eq (tgt := 73) hx hb dX6_readChoice_47 (by decide) (fun c_36 => ?_) (fun c_36 => ?_)
          · have jc_36 := dk_eqc (k := 0) (by decide +kernel) c_36
            refine lv_iconst (v := 0) hx hb dX6_readChoice_73 (by decide +kernel) ?_
            refine lv_istore_n (lv' := [(2, .int 0), (0, .ref (o + 209)), (1, .int 3)]) hx hb dX6_readChoice_74 rfl hl (by decide) rfl (fun ls hl => ?_)
            refine lv_aload_n hx hb dX6_readChoice_75 rfl (lv_at hl 1 rfl) ?_
            refine lv_bipush (v := (-9)) hx hb dX6_readChoice_76 (by decide +kernel) ?_
            refine dg_callv hS hA1 hA (va_runV (As := [.int (-9)]) (rest := []) F (c_rd_put l g D o S_33 (-9) en y_35 f_y_35 (by omega) ke ((congrFun ((m_33.2 211 _ sX_211 (by decide)).1.trans ((m_26.2 211 _ sX_211 (by decide)).1.trans ((m_18.2 211 _ sX_211 (by decide)).1.trans ((m_11.2 211 _ sX_211 (by decide)).1.trans ((m_4.2 211 _ sX_211 (by decide)).1.trans (m_1.2 211 _ sX_211 (by decide)).1))))) _).trans f_ke) (by omega) (by omega) I_33 H.size) (cwV 1 hts (bw_V wB_753 wB_754 wB_755 wB_684 wB_752) rfl rfl rfl (by decide +kernel) ⟨Nat.le_of_ble_eq_true rfl, Nat.le_of_ble_eq_true rfl⟩) (dg_preV sX_209 rfl K ST hP hS hA1 hA) rfl rfl hl.1 rfl (lv_room (Nat.le_of_ble_eq_true rfl)) dX6_readChoice_78 ⟨Nat.le_of_ble_eq_true rfl, Nat.le_of_ble_eq_true rfl⟩) (fun S_37 hw_37 H locs hP hS => ?_)
            obtain ⟨I_37, m_37, -⟩ := hw_37
            have M_37 := dg_sm.tr M_33 m_37 (by decide) (by decide)
            refine lv_iload_n hx hb dX6_readChoice_81 rfl (lv_at hl 0 rfl) ?_
            have hz_38 : (0 : Int32).toInt = 0 := by decide +kernel
            have hz_39 : (0 : Int32).toInt = 0 := by decide +kernel
            refine W.widen (k := 0) (n := 0) (Nat.le_of_ble_eq_true rfl) (Nat.le_of_ble_eq_true rfl) ?_
            exact dg_iret hx hb hr hlocks (by decide +kernel) hP hS ⟨I_37, M_37, (by decide +kernel), ⟨y_35, ((m_37.1 209 4 _ sX_209 (by decide)).trans f_y_35), (by omega)⟩, trivial⟩ dX6_readChoice_82
          · have jc_36 := dk_neqc (k := 0) (by decide +kernel) c_36
            refine lv_aload_n hx hb dX6_readChoice_50 rfl (lv_at hl 0 rfl) ?_
            refine lv_iload_n hx hb dX6_readChoice_51 rfl (lv_at hl 1 rfl) ?_
            refine lv_iconst (v := 1) hx hb dX6_readChoice_52 (by decide +kernel) ?_
            refine lv_iadd hx hb dX6_readChoice_53 ?_
            refine dk_top (y := 4) (by decide +kernel) ?_
            refine dg_calli hS hA1 hA (va_runV (As := [.int 4]) (rest := []) F (c_rd_readSum_4 l g D o S_33 en y_35 f_y_35 (by omega) ke ((congrFun ((m_33.2 211 _ sX_211 (by decide)).1.trans ((m_26.2 211 _ sX_211 (by decide)).1.trans ((m_18.2 211 _ sX_211 (by decide)).1.trans ((m_11.2 211 _ sX_211 (by decide)).1.trans ((m_4.2 211 _ sX_211 (by decide)).1.trans (m_1.2 211 _ sX_211 (by decide)).1))))) _).trans f_ke) (by omega) (by omega) I_33 H.size) (cwV 1 hts (bw_V wB_785 wB_786 wB_787 wB_684 wB_784) rfl rfl rfl (by decide +kernel) ⟨Nat.le_of_ble_eq_true rfl, Nat.le_of_ble_eq_true rfl⟩) (dg_preV sX_209 rfl K ST hP hS hA1 hA) rfl rfl hl.1 rfl (lv_room (Nat.le_of_ble_eq_true rfl)) dX6_readChoice_54 ⟨Nat.le_of_ble_eq_true rfl, Nat.le_of_ble_eq_true rfl⟩) (fun x_40 S_41 hw_41 H locs hP hS => ?_)
            obtain ⟨I_41, m_41, w_41_0, w_41_1, -⟩ := hw_41
            have M_41 := dg_sm.tr M_33 m_41 (by decide) (by decide)
            have w_41_0 : 0 ≤ (x_40).toInt ∧ (x_40).toInt ≤ 1 := w_41_0
            obtain ⟨y_42, f_y_42, w_41_1⟩ := w_41_1
            have w_41_1 : (y_42).toInt ≤ (en).toInt := w_41_1
            have b_y_42 : 0 ≤ (y_42).toInt ∧ (y_42).toInt ≤ 1600 := dg_I.intb (lo := 0) (hi := 1600) I_41 sX_209 (by decide +kernel) f_y_42
            refine lv_if_eq (tgt := 73) hx hb dX6_readChoice_57 (by decide) (fun c_43 => ?_) (fun c_43 => ?_)
            · have jc_43 := dk_eqc (k := 0) (by decide +kernel) c_43
              refine lv_iconst (v := 0) hx hb dX6_readChoice_73 (by decide +kernel) ?_
              refine lv_istore_n (lv' := [(2, .int 0), (0, .ref (o + 209)), (1, .int 3)]) hx hb dX6_readChoice_74 rfl hl (by decide) rfl (fun ls hl => ?_)
              refine lv_aload_n hx hb dX6_readChoice_75 rfl (lv_at hl 1 rfl) ?_
              refine lv_bipush (v := (-9)) hx hb dX6_readChoice_76 (by decide +kernel) ?_
              refine dg_callv hS hA1 hA (va_runV (As := [.int (-9)]) (rest := []) F (c_rd_put l g D o S_41 (-9) en y_42 f_y_42 (by omega) ke ((congrFun ((m_41.2 211 _ sX_211 (by decide)).1.trans ((m_33.2 211 _ sX_211 (by decide)).1.trans ((m_26.2 211 _ sX_211 (by decide)).1.trans ((m_18.2 211 _ sX_211 (by decide)).1.trans ((m_11.2 211 _ sX_211 (by decide)).1.trans ((m_4.2 211 _ sX_211 (by decide)).1.trans (m_1.2 211 _ sX_211 (by decide)).1)))))) _).trans f_ke) (by omega) (by omega) I_41 H.size) (cwV 1 hts (bw_V wB_753 wB_754 wB_755 wB_684 wB_752) rfl rfl rfl (by decide +kernel) ⟨Nat.le_of_ble_eq_true rfl, Nat.le_of_ble_eq_true rfl⟩) (dg_preV sX_209 rfl K ST hP hS hA1 hA) rfl rfl hl.1 rfl (lv_room (Nat.le_of_ble_eq_true rfl)) dX6_readChoice_78 ⟨Nat.le_of_ble_eq_true rfl, Nat.le_of_ble_eq_true rfl⟩) (fun S_44 hw_44 H locs hP hS => ?_)
              obtain ⟨I_44, m_44, -⟩ := hw_44
              have M_44 := dg_sm.tr M_41 m_44 (by decide) (by decide)
              refine lv_iload_n hx hb dX6_readChoice_81 rfl (lv_at hl 0 rfl) ?_
              have hz_45 : (0 : Int32).toInt = 0 := by decide +kernel
              have hz_46 : (0 : Int32).toInt = 0 := by decide +kernel
              refine W.widen (k := 0) (n := 0) (Nat.le_of_ble_eq_true rfl) (Nat.le_of_ble_eq_true rfl) ?_
              exact dg_iret hx hb hr hlocks (by decide +kernel) hP hS ⟨I_44, M_44, (by decide +kernel), ⟨y_42, ((m_44.1 209 4 _ sX_209 (by decide)).trans f_y_42), (by omega)⟩, trivial⟩ dX6_readChoice_82
            · have jc_43 := dk_neqc (k := 0) (by decide +kernel) c_43
              refine lv_aload_n hx hb dX6_readChoice_60 rfl (lv_at hl 0 rfl) ?_
              refine lv_bipush (v := 41) hx hb dX6_readChoice_61 (by decide +kernel) ?_
              refine dg_calli hS hA1 hA (va_runV (As := [.int 41]) (rest := []) F (c_rd_takeSign l g D o S_41 41 en y_42 f_y_42 (by omega) ke ((congrFun ((m_41.2 211 _ sX_211 (by decide)).1.trans ((m_33.2 211 _ sX_211 (by decide)).1.trans ((m_26.2 211 _ sX_211 (by decide)).1.trans ((m_18.2 211 _ sX_211 (by decide)).1.trans ((m_11.2 211 _ sX_211 (by decide)).1.trans ((m_4.2 211 _ sX_211 (by decide)).1.trans (m_1.2 211 _ sX_211 (by decide)).1)))))) _).trans f_ke) (by omega) (by omega) I_41 H.size) (cwV 1 hts (bw_V wB_809 wB_810 wB_811 wB_684 wB_808) rfl rfl rfl (by decide +kernel) ⟨Nat.le_of_ble_eq_true rfl, Nat.le_of_ble_eq_true rfl⟩) (dg_preV sX_209 rfl K ST hP hS hA1 hA) rfl rfl hl.1 rfl (lv_room (Nat.le_of_ble_eq_true rfl)) dX6_readChoice_63 ⟨Nat.le_of_ble_eq_true rfl, Nat.le_of_ble_eq_true rfl⟩) (fun x_47 S_48 hw_48 H locs hP hS => ?_)
              obtain ⟨I_48, m_48, w_48_0, w_48_1, -⟩ := hw_48
              have M_48 := dg_sm.tr M_41 m_48 (by decide) (by decide)
              have hz_49 : (41 : Int32).toInt = 41 := by decide +kernel
              have w_48_0 : 0 ≤ (x_47).toInt ∧ (x_47).toInt ≤ 1 := w_48_0
              obtain ⟨y_50, f_y_50, w_48_1⟩ := w_48_1
              have w_48_1 : (y_50).toInt ≤ (en).toInt := w_48_1
              have b_y_50 : 0 ≤ (y_50).toInt ∧ (y_50).toInt ≤ 1600 := dg_I.intb (lo := 0) (hi := 1600) I_48 sX_209 (by decide +kernel) f_y_50
              refine lv_if_eq (tgt := 73) hx hb dX6_readChoice_66 (by decide) (fun c_51 => ?_) (fun c_51 => ?_)
              · have jc_51 := dk_eqc (k := 0) (by decide +kernel) c_51
                refine lv_iconst (v := 0) hx hb dX6_readChoice_73 (by decide +kernel) ?_
                refine lv_istore_n (lv' := [(2, .int 0), (0, .ref (o + 209)), (1, .int 3)]) hx hb dX6_readChoice_74 rfl hl (by decide) rfl (fun ls hl => ?_)
                refine lv_aload_n hx hb dX6_readChoice_75 rfl (lv_at hl 1 rfl) ?_
                refine lv_bipush (v := (-9)) hx hb dX6_readChoice_76 (by decide +kernel) ?_
                refine dg_callv hS hA1 hA (va_runV (As := [.int (-9)]) (rest := []) F (c_rd_put l g D o S_48 (-9) en y_50 f_y_50 (by omega) ke ((congrFun ((m_48.2 211 _ sX_211 (by decide)).1.trans ((m_41.2 211 _ sX_211 (by decide)).1.trans ((m_33.2 211 _ sX_211 (by decide)).1.trans ((m_26.2 211 _ sX_211 (by decide)).1.trans ((m_18.2 211 _ sX_211 (by decide)).1.trans ((m_11.2 211 _ sX_211 (by decide)).1.trans ((m_4.2 211 _ sX_211 (by decide)).1.trans (m_1.2 211 _ sX_211 (by decide)).1))))))) _).trans f_ke) (by omega) (by omega) I_48 H.size) (cwV 1 hts (bw_V wB_753 wB_754 wB_755 wB_684 wB_752) rfl rfl rfl (by decide +kernel) ⟨Nat.le_of_ble_eq_true rfl, Nat.le_of_ble_eq_true rfl⟩) (dg_preV sX_209 rfl K ST hP hS hA1 hA) rfl rfl hl.1 rfl (lv_room (Nat.le_of_ble_eq_true rfl)) dX6_readChoice_78 ⟨Nat.le_of_ble_eq_true rfl, Nat.le_of_ble_eq_true rfl⟩) (fun S_52 hw_52 H locs hP hS => ?_)
                obtain ⟨I_52, m_52, -⟩ := hw_52
                have M_52 := dg_sm.tr M_48 m_52 (by decide) (by decide)
                refine lv_iload_n hx hb dX6_readChoice_81 rfl (lv_at hl 0 rfl) ?_
                have hz_53 : (0 : Int32).toInt = 0 := by decide +kernel
                have hz_54 : (0 : Int32).toInt = 0 := by decide +kernel
                refine W.widen (k := 0) (n := 0) (Nat.le_of_ble_eq_true rfl) (Nat.le_of_ble_eq_true rfl) ?_
                exact dg_iret hx hb hr hlocks (by decide +kernel) hP hS ⟨I_52, M_52, (by decide +kernel), ⟨y_50, ((m_52.1 209 4 _ sX_209 (by decide)).trans f_y_50), (by omega)⟩, trivial⟩ dX6_readChoice_82
              · have jc_51 := dk_neqc (k := 0) (by decide +kernel) c_51
                refine lv_iconst (v := 1) hx hb dX6_readChoice_69 (by decide +kernel) ?_
                refine lv_goto (tgt := 74) hx hb dX6_readChoice_70 (by decide) ?_
                refine lv_istore_n (lv' := [(2, .int 1), (0, .ref (o + 209)), (1, .int 3)]) hx hb dX6_readChoice_74 rfl hl (by decide) rfl (fun ls hl => ?_)
                refine lv_aload_n hx hb dX6_readChoice_75 rfl (lv_at hl 1 rfl) ?_
                refine lv_bipush (v := (-9)) hx hb dX6_readChoice_76 (by decide +kernel) ?_
                refine dg_callv hS hA1 hA (va_runV (As := [.int (-9)]) (rest := []) F (c_rd_put l g D o S_48 (-9) en y_50 f_y_50 (by omega) ke ((congrFun ((m_48.2 211 _ sX_211 (by decide)).1.trans ((m_41.2 211 _ sX_211 (by decide)).1.trans ((m_33.2 211 _ sX_211 (by decide)).1.trans ((m_26.2 211 _ sX_211 (by decide)).1.trans ((m_18.2 211 _ sX_211 (by decide)).1.trans ((m_11.2 211 _ sX_211 (by decide)).1.trans ((m_4.2 211 _ sX_211 (by decide)).1.trans (m_1.2 211 _ sX_211 (by decide)).1))))))) _).trans f_ke) (by omega) (by omega) I_48 H.size) (cwV 1 hts (bw_V wB_753 wB_754 wB_755 wB_684 wB_752) rfl rfl rfl (by decide +kernel) ⟨Nat.le_of_ble_eq_true rfl, Nat.le_of_ble_eq_true rfl⟩) (dg_preV sX_209 rfl K ST hP hS hA1 hA) rfl rfl hl.1 rfl (lv_room (Nat.le_of_ble_eq_true rfl)) dX6_readChoice_78 ⟨Nat.le_of_ble_eq_true rfl, Nat.le_of_ble_eq_true rfl⟩) (fun S_55 hw_55 H locs hP hS => ?_)
                obtain ⟨I_55, m_55, -⟩ := hw_55
                have M_55 := dg_sm.tr M_48 m_55 (by decide) (by decide)
                refine lv_iload_n hx hb dX6_readChoice_81 rfl (lv_at hl 0 rfl) ?_
                have hz_56 : (1 : Int32).toInt = 1 := by decide +kernel
                have hz_57 : (1 : Int32).toInt = 1 := by decide +kernel
                refine W.widen (k := 0) (n := 0) (Nat.le_of_ble_eq_true rfl) (Nat.le_of_ble_eq_true rfl) ?_
                exact dg_iret hx hb hr hlocks (by decide +kernel) hP hS ⟨I_55, M_55, (by decide +kernel), ⟨y_50, ((m_55.1 209 4 _ sX_209 (by decide)).trans f_y_50), (by omega)⟩, trivial⟩ dX6_readChoice_82
set_option maxHeartbeats 8000000 in
set_option maxRecDepth 100000 in
theorem c_rd_readPair_3 (l : Launch) (g : Nat → ClassId) (D : va_G) (o : Nat) (S : dg_S) (a2 : Int32) (en : Int32) (n0 : Int32) (f_n0 : S.1 209 4 = .int n0) (b_n0 : 0 ≤ (n0).toInt ∧ (n0).toInt ≤ 1600) (ke : Int32) (f_ke : S.2.1 211 (en : Int32).toNatClampNeg = ke) (b_ke : 0 ≤ (ke).toInt ∧ (ke).toInt ≤ 0) (hne : (n0).toInt ≤ (en).toInt ∧ (en).toInt ≤ 1600 ∧ 0 ≤ (en).toInt) (I : CX o S) (sz : Nat) : Met l yX6_readPair (bw yX6_readPair cX6_readPair 4 (some .boolean)) ({ frames := 32, cells := 0, slots := 0, locals := 738 } : Room) (dk_Pc g D (dg_w g shX o rfX S) sz [.ref (o + 209), .int 3, .int a2]) (va_Qi (fun (r : Int32) S' => CX o S' ∧ dg_sm shX [(31, 0), (31, 1), (31, 4), (31, 7)] [28] S S' ∧ (0 ≤ (r).toInt ∧ (r).toInt ≤ 1) ∧ (∃ y9 : Int32, S'.1 209 4 = .int y9 ∧ ((y9).toInt ≤ (en).toInt)) ∧ True) (dg_B g D shX o rfX) (dg_A o shX.length sz)) 0 0 (dg_A o shX.length sz) := by
  refine dg_met (cc := cX6_readPair) (maxL := 4) (ret := (some .boolean)) (by decide) rfl (Nat.le_of_ble_eq_true rfl) ?_
  intro p e s m args below meth c A hAe harg hx hb hr hml hts hown hlocks hin hP K hS hA1 hA ST hsz ls hl
  rw [← hAe]
  have F : CallFix p m c cX6_readPair 4 s args (bw yX6_readPair cX6_readPair 4 (some .boolean)) RX6 := ⟨hx, hb, hml, hown, hts⟩
  have hl : lv_has ls 4 [(0, .ref (o + 209)), (1, .int 3), (2, .int a2)] := hl
  have M_0 : dg_sm shX [(31, 0), (31, 1), (31, 4), (31, 7)] [28] S S := dg_sm.rf
  refine lv_aload_n hx hb dX6_readPair_0 rfl (lv_at hl 0 rfl) ?_
  refine dg_callv hS hA1 hA (va_runV (As := []) (rest := []) F (c_rd_pass l g D o S en n0 f_n0 (by omega) ke f_ke (by omega) (by omega) I s.heap.size) (cwV 0 hts (bw_V wB_686 wB_687 wB_688 wB_684 wB_685) rfl rfl rfl (by decide +kernel) ⟨Nat.le_of_ble_eq_true rfl, Nat.le_of_ble_eq_true rfl⟩) (dg_preV sX_209 rfl K ST hP hS hA1 hA) rfl rfl hl.1 rfl (lv_room (Nat.le_of_ble_eq_true rfl)) dX6_readPair_1 ⟨Nat.le_of_ble_eq_true rfl, Nat.le_of_ble_eq_true rfl⟩) (fun S_1 hw_1 H locs hP hS => ?_)
  obtain ⟨I_1, m_1, w_1_0, -⟩ := hw_1
  have M_1 := dg_sm.tr M_0 m_1 (by decide) (by decide)
  obtain ⟨y_2, f_y_2, w_1_0⟩ := w_1_0
  have w_1_0 : (y_2).toInt ≤ (en).toInt := w_1_0
  have b_y_2 : 0 ≤ (y_2).toInt ∧ (y_2).toInt ≤ 1600 := dg_I.intb (lo := 0) (hi := 1600) I_1 sX_209 (by decide +kernel) f_y_2
  refine lv_aload_n hx hb dX6_readPair_4 rfl (lv_at hl 0 rfl) ?_
  refine lv_iload_n hx hb dX6_readPair_5 rfl (lv_at hl 1 rfl) ?_
  refine dg_calli hS hA1 hA (va_runV (As := [.int 3]) (rest := []) F (c_rd_takeOpening_3 l g D o S_1 en y_2 f_y_2 (by omega) ke ((congrFun (m_1.2 211 _ sX_211 (by decide)).1 _).trans f_ke) (by omega) (by omega) I_1 H.size) (cwV 1 hts (bw_V wB_749 wB_750 wB_751 wB_684 wB_748) rfl rfl rfl (by decide +kernel) ⟨Nat.le_of_ble_eq_true rfl, Nat.le_of_ble_eq_true rfl⟩) (dg_preV sX_209 rfl K ST hP hS hA1 hA) rfl rfl hl.1 rfl (lv_room (Nat.le_of_ble_eq_true rfl)) dX6_readPair_6 ⟨Nat.le_of_ble_eq_true rfl, Nat.le_of_ble_eq_true rfl⟩) (fun x_3 S_4 hw_4 H locs hP hS => ?_)
  obtain ⟨I_4, m_4, w_4_0, w_4_1, -⟩ := hw_4
  have M_4 := dg_sm.tr M_1 m_4 (by decide) (by decide)
  have w_4_0 : 0 ≤ (x_3).toInt ∧ (x_3).toInt ≤ 1 := w_4_0
  obtain ⟨y_5, f_y_5, w_4_1⟩ := w_4_1
  have w_4_1 : (y_5).toInt ≤ (en).toInt := w_4_1
  have b_y_5 : 0 ≤ (y_5).toInt ∧ (y_5).toInt ≤ 1600 := dg_I.intb (lo := 0) (hi := 1600) I_4 sX_209 (by decide +kernel) f_y_5
  refine lv_if_eq (tgt := 54) hx hb dX6_readPair_9 (by decide) (fun c_6 => ?_) (fun c_6 => ?_)
  · have jc_6 := dk_eqc (k := 0) (by decide +kernel) c_6
    refine lv_iconst (v := 0) hx hb dX6_readPair_54 (by decide +kernel) ?_
    refine lv_istore_n (lv' := [(3, .int 0), (0, .ref (o + 209)), (1, .int 3), (2, .int a2)]) hx hb dX6_readPair_55 rfl hl (by decide) rfl (fun ls hl => ?_)
    refine lv_aload_n hx hb dX6_readPair_56 rfl (lv_at hl 1 rfl) ?_
    refine lv_iload_n hx hb dX6_readPair_57 rfl (lv_at hl 3 rfl) ?_
    refine dg_callv hS hA1 hA (va_runV (As := [.int a2]) (rest := []) F (c_rd_put l g D o S_4 a2 en y_5 f_y_5 (by omega) ke ((congrFun ((m_4.2 211 _ sX_211 (by decide)).1.trans (m_1.2 211 _ sX_211 (by decide)).1) _).trans f_ke) (by omega) (by omega) I_4 H.size) (cwV 1 hts (bw_V wB_753 wB_754 wB_755 wB_684 wB_752) rfl rfl rfl (by decide +kernel) ⟨Nat.le_of_ble_eq_true rfl, Nat.le_of_ble_eq_true rfl⟩) (dg_preV sX_209 rfl K ST hP hS hA1 hA) rfl rfl hl.1 rfl (lv_room (Nat.le_of_ble_eq_true rfl)) dX6_readPair_58 ⟨Nat.le_of_ble_eq_true rfl, Nat.le_of_ble_eq_true rfl⟩) (fun S_7 hw_7 H locs hP hS => ?_)
    obtain ⟨I_7, m_7, -⟩ := hw_7
    have M_7 := dg_sm.tr M_4 m_7 (by decide) (by decide)
    refine lv_iload_n hx hb dX6_readPair_61 rfl (lv_at hl 0 rfl) ?_
    have hz_8 : (0 : Int32).toInt = 0 := by decide +kernel
    have hz_9 : (0 : Int32).toInt = 0 := by decide +kernel
    refine W.widen (k := 0) (n := 0) (Nat.le_of_ble_eq_true rfl) (Nat.le_of_ble_eq_true rfl) ?_
    exact dg_iret hx hb hr hlocks (by decide +kernel) hP hS ⟨I_7, M_7, (by decide +kernel), ⟨y_5, ((m_7.1 209 4 _ sX_209 (by decide)).trans f_y_5), (by omega)⟩, trivial⟩ dX6_readPair_62
  · have jc_6 := dk_neqc (k := 0) (by decide +kernel) c_6
    refine lv_aload_n hx hb dX6_readPair_12 rfl (lv_at hl 0 rfl) ?_
    refine lv_iload_n hx hb dX6_readPair_13 rfl (lv_at hl 1 rfl) ?_
    refine lv_iconst (v := 1) hx hb dX6_readPair_14 (by decide +kernel) ?_
    refine lv_iadd hx hb dX6_readPair_15 ?_
    refine dk_top (y := 4) (by decide +kernel) ?_
    refine dg_calli hS hA1 hA (va_runV (As := [.int 4]) (rest := []) F (c_rd_readSum_4 l g D o S_4 en y_5 f_y_5 (by omega) ke ((congrFun ((m_4.2 211 _ sX_211 (by decide)).1.trans (m_1.2 211 _ sX_211 (by decide)).1) _).trans f_ke) (by omega) (by omega) I_4 H.size) (cwV 1 hts (bw_V wB_785 wB_786 wB_787 wB_684 wB_784) rfl rfl rfl (by decide +kernel) ⟨Nat.le_of_ble_eq_true rfl, Nat.le_of_ble_eq_true rfl⟩) (dg_preV sX_209 rfl K ST hP hS hA1 hA) rfl rfl hl.1 rfl (lv_room (Nat.le_of_ble_eq_true rfl)) dX6_readPair_16 ⟨Nat.le_of_ble_eq_true rfl, Nat.le_of_ble_eq_true rfl⟩) (fun x_10 S_11 hw_11 H locs hP hS => ?_)
    obtain ⟨I_11, m_11, w_11_0, w_11_1, -⟩ := hw_11
    have M_11 := dg_sm.tr M_4 m_11 (by decide) (by decide)
    have w_11_0 : 0 ≤ (x_10).toInt ∧ (x_10).toInt ≤ 1 := w_11_0
    obtain ⟨y_12, f_y_12, w_11_1⟩ := w_11_1
    have w_11_1 : (y_12).toInt ≤ (en).toInt := w_11_1
    have b_y_12 : 0 ≤ (y_12).toInt ∧ (y_12).toInt ≤ 1600 := dg_I.intb (lo := 0) (hi := 1600) I_11 sX_209 (by decide +kernel) f_y_12
    refine lv_if_eq (tgt := 54) hx hb dX6_readPair_19 (by decide) (fun c_13 => ?_) (fun c_13 => ?_)
    · have jc_13 := dk_eqc (k := 0) (by decide +kernel) c_13
      refine lv_iconst (v := 0) hx hb dX6_readPair_54 (by decide +kernel) ?_
      refine lv_istore_n (lv' := [(3, .int 0), (0, .ref (o + 209)), (1, .int 3), (2, .int a2)]) hx hb dX6_readPair_55 rfl hl (by decide) rfl (fun ls hl => ?_)
      refine lv_aload_n hx hb dX6_readPair_56 rfl (lv_at hl 1 rfl) ?_
      refine lv_iload_n hx hb dX6_readPair_57 rfl (lv_at hl 3 rfl) ?_
      refine dg_callv hS hA1 hA (va_runV (As := [.int a2]) (rest := []) F (c_rd_put l g D o S_11 a2 en y_12 f_y_12 (by omega) ke ((congrFun ((m_11.2 211 _ sX_211 (by decide)).1.trans ((m_4.2 211 _ sX_211 (by decide)).1.trans (m_1.2 211 _ sX_211 (by decide)).1)) _).trans f_ke) (by omega) (by omega) I_11 H.size) (cwV 1 hts (bw_V wB_753 wB_754 wB_755 wB_684 wB_752) rfl rfl rfl (by decide +kernel) ⟨Nat.le_of_ble_eq_true rfl, Nat.le_of_ble_eq_true rfl⟩) (dg_preV sX_209 rfl K ST hP hS hA1 hA) rfl rfl hl.1 rfl (lv_room (Nat.le_of_ble_eq_true rfl)) dX6_readPair_58 ⟨Nat.le_of_ble_eq_true rfl, Nat.le_of_ble_eq_true rfl⟩) (fun S_14 hw_14 H locs hP hS => ?_)
      obtain ⟨I_14, m_14, -⟩ := hw_14
      have M_14 := dg_sm.tr M_11 m_14 (by decide) (by decide)
      refine lv_iload_n hx hb dX6_readPair_61 rfl (lv_at hl 0 rfl) ?_
      have hz_15 : (0 : Int32).toInt = 0 := by decide +kernel
      have hz_16 : (0 : Int32).toInt = 0 := by decide +kernel
      refine W.widen (k := 0) (n := 0) (Nat.le_of_ble_eq_true rfl) (Nat.le_of_ble_eq_true rfl) ?_
      exact dg_iret hx hb hr hlocks (by decide +kernel) hP hS ⟨I_14, M_14, (by decide +kernel), ⟨y_12, ((m_14.1 209 4 _ sX_209 (by decide)).trans f_y_12), (by omega)⟩, trivial⟩ dX6_readPair_62
    · have jc_13 := dk_neqc (k := 0) (by decide +kernel) c_13
      refine lv_aload_n hx hb dX6_readPair_22 rfl (lv_at hl 0 rfl) ?_
      refine lv_bipush (v := 44) hx hb dX6_readPair_23 (by decide +kernel) ?_
      refine dg_calli hS hA1 hA (va_runV (As := [.int 44]) (rest := []) F (c_rd_takeSign l g D o S_11 44 en y_12 f_y_12 (by omega) ke ((congrFun ((m_11.2 211 _ sX_211 (by decide)).1.trans ((m_4.2 211 _ sX_211 (by decide)).1.trans (m_1.2 211 _ sX_211 (by decide)).1)) _).trans f_ke) (by omega) (by omega) I_11 H.size) (cwV 1 hts (bw_V wB_809 wB_810 wB_811 wB_684 wB_808) rfl rfl rfl (by decide +kernel) ⟨Nat.le_of_ble_eq_true rfl, Nat.le_of_ble_eq_true rfl⟩) (dg_preV sX_209 rfl K ST hP hS hA1 hA) rfl rfl hl.1 rfl (lv_room (Nat.le_of_ble_eq_true rfl)) dX6_readPair_25 ⟨Nat.le_of_ble_eq_true rfl, Nat.le_of_ble_eq_true rfl⟩) (fun x_17 S_18 hw_18 H locs hP hS => ?_)
      obtain ⟨I_18, m_18, w_18_0, w_18_1, -⟩ := hw_18
      have M_18 := dg_sm.tr M_11 m_18 (by decide) (by decide)
      have hz_19 : (44 : Int32).toInt = 44 := by decide +kernel
      have w_18_0 : 0 ≤ (x_17).toInt ∧ (x_17).toInt ≤ 1 := w_18_0
      obtain ⟨y_20, f_y_20, w_18_1⟩ := w_18_1
      have w_18_1 : (y_20).toInt ≤ (en).toInt := w_18_1
      have b_y_20 : 0 ≤ (y_20).toInt ∧ (y_20).toInt ≤ 1600 := dg_I.intb (lo := 0) (hi := 1600) I_18 sX_209 (by decide +kernel) f_y_20
      refine lv_if_eq (tgt := 54) hx hb dX6_readPair_28 (by decide) (fun c_21 => ?_) (fun c_21 => ?_)
      · have jc_21 := dk_eqc (k := 0) (by decide +kernel) c_21
        refine lv_iconst (v := 0) hx hb dX6_readPair_54 (by decide +kernel) ?_
        refine lv_istore_n (lv' := [(3, .int 0), (0, .ref (o + 209)), (1, .int 3), (2, .int a2)]) hx hb dX6_readPair_55 rfl hl (by decide) rfl (fun ls hl => ?_)
        refine lv_aload_n hx hb dX6_readPair_56 rfl (lv_at hl 1 rfl) ?_
        refine lv_iload_n hx hb dX6_readPair_57 rfl (lv_at hl 3 rfl) ?_
        refine dg_callv hS hA1 hA (va_runV (As := [.int a2]) (rest := []) F (c_rd_put l g D o S_18 a2 en y_20 f_y_20 (by omega) ke ((congrFun ((m_18.2 211 _ sX_211 (by decide)).1.trans ((m_11.2 211 _ sX_211 (by decide)).1.trans ((m_4.2 211 _ sX_211 (by decide)).1.trans (m_1.2 211 _ sX_211 (by decide)).1))) _).trans f_ke) (by omega) (by omega) I_18 H.size) (cwV 1 hts (bw_V wB_753 wB_754 wB_755 wB_684 wB_752) rfl rfl rfl (by decide +kernel) ⟨Nat.le_of_ble_eq_true rfl, Nat.le_of_ble_eq_true rfl⟩) (dg_preV sX_209 rfl K ST hP hS hA1 hA) rfl rfl hl.1 rfl (lv_room (Nat.le_of_ble_eq_true rfl)) dX6_readPair_58 ⟨Nat.le_of_ble_eq_true rfl, Nat.le_of_ble_eq_true rfl⟩) (fun S_22 hw_22 H locs hP hS => ?_)
        obtain ⟨I_22, m_22, -⟩ := hw_22
        have M_22 := dg_sm.tr M_18 m_22 (by decide) (by decide)
        refine lv_iload_n hx hb dX6_readPair_61 rfl (lv_at hl 0 rfl) ?_
        have hz_23 : (0 : Int32).toInt = 0 := by decide +kernel
        have hz_24 : (0 : Int32).toInt = 0 := by decide +kernel
        refine W.widen (k := 0) (n := 0) (Nat.le_of_ble_eq_true rfl) (Nat.le_of_ble_eq_true rfl) ?_
        exact dg_iret hx hb hr hlocks (by decide +kernel) hP hS ⟨I_22, M_22, (by decide +kernel), ⟨y_20, ((m_22.1 209 4 _ sX_209 (by decide)).trans f_y_20), (by omega)⟩, trivial⟩ dX6_readPair_62
      · have jc_21 := dk_neqc (k := 0) (by decide +kernel) c_21
        refine lv_aload_n hx hb dX6_readPair_31 rfl (lv_at hl 0 rfl) ?_
        refine lv_iload_n hx hb dX6_readPair_32 rfl (lv_at hl 1 rfl) ?_
        refine lv_iconst (v := 1) hx hb dX6_readPair_33 (by decide +kernel) ?_
        refine lv_iadd hx hb dX6_readPair_34 ?_
        refine dk_top (y := 4) (by decide +kernel) ?_
        refine dg_calli hS hA1 hA (va_runV (As := [.int 4]) (rest := []) F (c_rd_readSum_4 l g D o S_18 en y_20 f_y_20 (by omega) ke ((congrFun ((m_18.2 211 _ sX_211 (by decide)).1.trans ((m_11.2 211 _ sX_211 (by decide)).1.trans ((m_4.2 211 _ sX_211 (by decide)).1.trans (m_1.2 211 _ sX_211 (by decide)).1))) _).trans f_ke) (by omega) (by omega) I_18 H.size) (cwV 1 hts (bw_V wB_785 wB_786 wB_787 wB_684 wB_784) rfl rfl rfl (by decide +kernel) ⟨Nat.le_of_ble_eq_true rfl, Nat.le_of_ble_eq_true rfl⟩) (dg_preV sX_209 rfl K ST hP hS hA1 hA) rfl rfl hl.1 rfl (lv_room (Nat.le_of_ble_eq_true rfl)) dX6_readPair_35 ⟨Nat.le_of_ble_eq_true rfl, Nat.le_of_ble_eq_true rfl⟩) (fun x_25 S_26 hw_26 H locs hP hS => ?_)
        obtain ⟨I_26, m_26, w_26_0, w_26_1, -⟩ := hw_26
        have M_26 := dg_sm.tr M_18 m_26 (by decide) (by decide)
        have w_26_0 : 0 ≤ (x_25).toInt ∧ (x_25).toInt ≤ 1 := w_26_0
        obtain ⟨y_27, f_y_27, w_26_1⟩ := w_26_1
        have w_26_1 : (y_27).toInt ≤ (en).toInt := w_26_1
        have b_y_27 : 0 ≤ (y_27).toInt ∧ (y_27).toInt ≤ 1600 := dg_I.intb (lo := 0) (hi := 1600) I_26 sX_209 (by decide +kernel) f_y_27
        refine lv_if_eq (tgt := 54) hx hb dX6_readPair_38 (by decide) (fun c_28 => ?_) (fun c_28 => ?_)
        · have jc_28 := dk_eqc (k := 0) (by decide +kernel) c_28
          refine lv_iconst (v := 0) hx hb dX6_readPair_54 (by decide +kernel) ?_
          refine lv_istore_n (lv' := [(3, .int 0), (0, .ref (o + 209)), (1, .int 3), (2, .int a2)]) hx hb dX6_readPair_55 rfl hl (by decide) rfl (fun ls hl => ?_)
          refine lv_aload_n hx hb dX6_readPair_56 rfl (lv_at hl 1 rfl) ?_
          refine lv_iload_n hx hb dX6_readPair_57 rfl (lv_at hl 3 rfl) ?_
          refine dg_callv hS hA1 hA (va_runV (As := [.int a2]) (rest := []) F (c_rd_put l g D o S_26 a2 en y_27 f_y_27 (by omega) ke ((congrFun ((m_26.2 211 _ sX_211 (by decide)).1.trans ((m_18.2 211 _ sX_211 (by decide)).1.trans ((m_11.2 211 _ sX_211 (by decide)).1.trans ((m_4.2 211 _ sX_211 (by decide)).1.trans (m_1.2 211 _ sX_211 (by decide)).1)))) _).trans f_ke) (by omega) (by omega) I_26 H.size) (cwV 1 hts (bw_V wB_753 wB_754 wB_755 wB_684 wB_752) rfl rfl rfl (by decide +kernel) ⟨Nat.le_of_ble_eq_true rfl, Nat.le_of_ble_eq_true rfl⟩) (dg_preV sX_209 rfl K ST hP hS hA1 hA) rfl rfl hl.1 rfl (lv_room (Nat.le_of_ble_eq_true rfl)) dX6_readPair_58 ⟨Nat.le_of_ble_eq_true rfl, Nat.le_of_ble_eq_true rfl⟩) (fun S_29 hw_29 H locs hP hS => ?_)
          obtain ⟨I_29, m_29, -⟩ := hw_29
          have M_29 := dg_sm.tr M_26 m_29 (by decide) (by decide)
          refine lv_iload_n hx hb dX6_readPair_61 rfl (lv_at hl 0 rfl) ?_
          have hz_30 : (0 : Int32).toInt = 0 := by decide +kernel
          have hz_31 : (0 : Int32).toInt = 0 := by decide +kernel
          refine W.widen (k := 0) (n := 0) (Nat.le_of_ble_eq_true rfl) (Nat.le_of_ble_eq_true rfl) ?_
          exact dg_iret hx hb hr hlocks (by decide +kernel) hP hS ⟨I_29, M_29, (by decide +kernel), ⟨y_27, ((m_29.1 209 4 _ sX_209 (by decide)).trans f_y_27), (by omega)⟩, trivial⟩ dX6_readPair_62
        · have jc_28 := dk_neqc (k := 0) (by decide +kernel) c_28
          refine lv_aload_n hx hb dX6_readPair_41 rfl (lv_at hl 0 rfl) ?_
          refine lv_bipush (v := 41) hx hb dX6_readPair_42 (by decide +kernel) ?_
          refine dg_calli hS hA1 hA (va_runV (As := [.int 41]) (rest := []) F (c_rd_takeSign l g D o S_26 41 en y_27 f_y_27 (by omega) ke ((congrFun ((m_26.2 211 _ sX_211 (by decide)).1.trans ((m_18.2 211 _ sX_211 (by decide)).1.trans ((m_11.2 211 _ sX_211 (by decide)).1.trans ((m_4.2 211 _ sX_211 (by decide)).1.trans (m_1.2 211 _ sX_211 (by decide)).1)))) _).trans f_ke) (by omega) (by omega) I_26 H.size) (cwV 1 hts (bw_V wB_809 wB_810 wB_811 wB_684 wB_808) rfl rfl rfl (by decide +kernel) ⟨Nat.le_of_ble_eq_true rfl, Nat.le_of_ble_eq_true rfl⟩) (dg_preV sX_209 rfl K ST hP hS hA1 hA) rfl rfl hl.1 rfl (lv_room (Nat.le_of_ble_eq_true rfl)) dX6_readPair_44 ⟨Nat.le_of_ble_eq_true rfl, Nat.le_of_ble_eq_true rfl⟩) (fun x_32 S_33 hw_33 H locs hP hS => ?_)
          obtain ⟨I_33, m_33, w_33_0, w_33_1, -⟩ := hw_33
          have M_33 := dg_sm.tr M_26 m_33 (by decide) (by decide)
          have hz_34 : (41 : Int32).toInt = 41 := by decide +kernel
          have w_33_0 : 0 ≤ (x_32).toInt ∧ (x_32).toInt ≤ 1 := w_33_0
          obtain ⟨y_35, f_y_35, w_33_1⟩ := w_33_1
          have w_33_1 : (y_35).toInt ≤ (en).toInt := w_33_1
          have b_y_35 : 0 ≤ (y_35).toInt ∧ (y_35).toInt ≤ 1600 := dg_I.intb (lo := 0) (hi := 1600) I_33 sX_209 (by decide +kernel) f_y_35
          refine lv_if_eq (tgt := 54) hx hb dX6_readPair_47 (by decide) (fun c_36 => ?_) (fun c_36 => ?_)
          · have jc_36 := dk_eqc (k := 0) (by decide +kernel) c_36
            refine lv_iconst (v := 0) hx hb dX6_readPair_54 (by decide +kernel) ?_
            refine lv_istore_n (lv' := [(3, .int 0), (0, .ref (o + 209)), (1, .int 3), (2, .int a2)]) hx hb dX6_readPair_55 rfl hl (by decide) rfl (fun ls hl => ?_)
            refine lv_aload_n hx hb dX6_readPair_56 rfl (lv_at hl 1 rfl) ?_
            refine lv_iload_n hx hb dX6_readPair_57 rfl (lv_at hl 3 rfl) ?_
            refine dg_callv hS hA1 hA (va_runV (As := [.int a2]) (rest := []) F (c_rd_put l g D o S_33 a2 en y_35 f_y_35 (by omega) ke ((congrFun ((m_33.2 211 _ sX_211 (by decide)).1.trans ((m_26.2 211 _ sX_211 (by decide)).1.trans ((m_18.2 211 _ sX_211 (by decide)).1.trans ((m_11.2 211 _ sX_211 (by decide)).1.trans ((m_4.2 211 _ sX_211 (by decide)).1.trans (m_1.2 211 _ sX_211 (by decide)).1))))) _).trans f_ke) (by omega) (by omega) I_33 H.size) (cwV 1 hts (bw_V wB_753 wB_754 wB_755 wB_684 wB_752) rfl rfl rfl (by decide +kernel) ⟨Nat.le_of_ble_eq_true rfl, Nat.le_of_ble_eq_true rfl⟩) (dg_preV sX_209 rfl K ST hP hS hA1 hA) rfl rfl hl.1 rfl (lv_room (Nat.le_of_ble_eq_true rfl)) dX6_readPair_58 ⟨Nat.le_of_ble_eq_true rfl, Nat.le_of_ble_eq_true rfl⟩) (fun S_37 hw_37 H locs hP hS => ?_)
            obtain ⟨I_37, m_37, -⟩ := hw_37
            have M_37 := dg_sm.tr M_33 m_37 (by decide) (by decide)
            refine lv_iload_n hx hb dX6_readPair_61 rfl (lv_at hl 0 rfl) ?_
            have hz_38 : (0 : Int32).toInt = 0 := by decide +kernel
            have hz_39 : (0 : Int32).toInt = 0 := by decide +kernel
            refine W.widen (k := 0) (n := 0) (Nat.le_of_ble_eq_true rfl) (Nat.le_of_ble_eq_true rfl) ?_
            exact dg_iret hx hb hr hlocks (by decide +kernel) hP hS ⟨I_37, M_37, (by decide +kernel), ⟨y_35, ((m_37.1 209 4 _ sX_209 (by decide)).trans f_y_35), (by omega)⟩, trivial⟩ dX6_readPair_62
          · have jc_36 := dk_neqc (k := 0) (by decide +kernel) c_36
            refine lv_iconst (v := 1) hx hb dX6_readPair_50 (by decide +kernel) ?_
            refine lv_goto (tgt := 55) hx hb dX6_readPair_51 (by decide) ?_
            refine lv_istore_n (lv' := [(3, .int 1), (0, .ref (o + 209)), (1, .int 3), (2, .int a2)]) hx hb dX6_readPair_55 rfl hl (by decide) rfl (fun ls hl => ?_)
            refine lv_aload_n hx hb dX6_readPair_56 rfl (lv_at hl 1 rfl) ?_
            refine lv_iload_n hx hb dX6_readPair_57 rfl (lv_at hl 3 rfl) ?_
            refine dg_callv hS hA1 hA (va_runV (As := [.int a2]) (rest := []) F (c_rd_put l g D o S_33 a2 en y_35 f_y_35 (by omega) ke ((congrFun ((m_33.2 211 _ sX_211 (by decide)).1.trans ((m_26.2 211 _ sX_211 (by decide)).1.trans ((m_18.2 211 _ sX_211 (by decide)).1.trans ((m_11.2 211 _ sX_211 (by decide)).1.trans ((m_4.2 211 _ sX_211 (by decide)).1.trans (m_1.2 211 _ sX_211 (by decide)).1))))) _).trans f_ke) (by omega) (by omega) I_33 H.size) (cwV 1 hts (bw_V wB_753 wB_754 wB_755 wB_684 wB_752) rfl rfl rfl (by decide +kernel) ⟨Nat.le_of_ble_eq_true rfl, Nat.le_of_ble_eq_true rfl⟩) (dg_preV sX_209 rfl K ST hP hS hA1 hA) rfl rfl hl.1 rfl (lv_room (Nat.le_of_ble_eq_true rfl)) dX6_readPair_58 ⟨Nat.le_of_ble_eq_true rfl, Nat.le_of_ble_eq_true rfl⟩) (fun S_40 hw_40 H locs hP hS => ?_)
            obtain ⟨I_40, m_40, -⟩ := hw_40
            have M_40 := dg_sm.tr M_33 m_40 (by decide) (by decide)
            refine lv_iload_n hx hb dX6_readPair_61 rfl (lv_at hl 0 rfl) ?_
            have hz_41 : (1 : Int32).toInt = 1 := by decide +kernel
            have hz_42 : (1 : Int32).toInt = 1 := by decide +kernel
            refine W.widen (k := 0) (n := 0) (Nat.le_of_ble_eq_true rfl) (Nat.le_of_ble_eq_true rfl) ?_
            exact dg_iret hx hb hr hlocks (by decide +kernel) hP hS ⟨I_40, M_40, (by decide +kernel), ⟨y_35, ((m_40.1 209 4 _ sX_209 (by decide)).trans f_y_35), (by omega)⟩, trivial⟩ dX6_readPair_62
set_option maxHeartbeats 8000000 in
set_option maxRecDepth 100000 in
theorem c_rd_readPart_3 (l : Launch) (g : Nat → ClassId) (D : va_G) (o : Nat) (S : dg_S) (en : Int32) (n0 : Int32) (f_n0 : S.1 209 4 = .int n0) (b_n0 : 0 ≤ (n0).toInt ∧ (n0).toInt ≤ 1600) (ke : Int32) (f_ke : S.2.1 211 (en : Int32).toNatClampNeg = ke) (b_ke : 0 ≤ (ke).toInt ∧ (ke).toInt ≤ 0) (hne : (n0).toInt ≤ (en).toInt ∧ (en).toInt ≤ 1600 ∧ 0 ≤ (en).toInt) (I : CX o S) (sz : Nat) : Met l yX6_readPart (bw yX6_readPart cX6_readPart 3 (some .boolean)) ({ frames := 37, cells := 0, slots := 0, locals := 851 } : Room) (dk_Pc g D (dg_w g shX o rfX S) sz [.ref (o + 209), .int 3]) (va_Qi (fun (r : Int32) S' => CX o S' ∧ dg_sm shX [(31, 0), (31, 1), (31, 4), (31, 7)] [28] S S' ∧ (0 ≤ (r).toInt ∧ (r).toInt ≤ 1) ∧ (∃ y9 : Int32, S'.1 209 4 = .int y9 ∧ ((y9).toInt ≤ (en).toInt)) ∧ True) (dg_B g D shX o rfX) (dg_A o shX.length sz)) 0 0 (dg_A o shX.length sz) := by
  refine dg_met (cc := cX6_readPart) (maxL := 3) (ret := (some .boolean)) (by decide) rfl (Nat.le_of_ble_eq_true rfl) ?_
  intro p e s m args below meth c A hAe harg hx hb hr hml hts hown hlocks hin hP K hS hA1 hA ST hsz ls hl
  rw [← hAe]
  have F : CallFix p m c cX6_readPart 3 s args (bw yX6_readPart cX6_readPart 3 (some .boolean)) RX6 := ⟨hx, hb, hml, hown, hts⟩
  have hl : lv_has ls 3 [(0, .ref (o + 209)), (1, .int 3)] := hl
  have M_0 : dg_sm shX [(31, 0), (31, 1), (31, 4), (31, 7)] [28] S S := dg_sm.rf
  refine lv_aload_n hx hb dX6_readPart_0 rfl (lv_at hl 0 rfl) ?_
  refine lv_bipush (v := 40) hx hb dX6_readPart_1 (by decide +kernel) ?_
  refine dg_calli hS hA1 hA (va_runV (As := [.int 40]) (rest := []) F (c_rd_isSign l g D o S 40 en n0 f_n0 (by omega) ke f_ke (by omega) (by omega) I s.heap.size) (cwV 1 hts (bw_V wB_694 wB_695 wB_696 wB_684 wB_693) rfl rfl rfl (by decide +kernel) ⟨Nat.le_of_ble_eq_true rfl, Nat.le_of_ble_eq_true rfl⟩) (dg_preV sX_209 rfl K ST hP hS hA1 hA) rfl rfl hl.1 rfl (lv_room (Nat.le_of_ble_eq_true rfl)) dX6_readPart_3 ⟨Nat.le_of_ble_eq_true rfl, Nat.le_of_ble_eq_true rfl⟩) (fun x_1 S_2 hw_2 H locs hP hS => ?_)
  rw [hw_2.1] at hP
  obtain ⟨hq_2, w_2_0, -⟩ := hw_2
  have w_2_0 : 0 ≤ (x_1).toInt ∧ (x_1).toInt ≤ 1 := w_2_0
  refine lv_if_eq (tgt := 42) hx hb dX6_readPart_6 (by decide) (fun c_3 => ?_) (fun c_3 => ?_)
  · have jc_3 := dk_eqc (k := 0) (by decide +kernel) c_3
    refine lv_aload_n hx hb dX6_readPart_42 rfl (lv_at hl 0 rfl) ?_
    refine lv_bipush (v := 20) hx hb dX6_readPart_43 (by decide +kernel) ?_
    refine dg_calli hS hA1 hA (va_runV (As := [.int 20]) (rest := []) F (c_rd_isOwn l g D o S 20 en n0 f_n0 (by omega) ke f_ke (by omega) (by omega) I H.size) (cwV 1 hts (bw_V wB_681 wB_682 wB_683 wB_684 wB_680) rfl rfl rfl (by decide +kernel) ⟨Nat.le_of_ble_eq_true rfl, Nat.le_of_ble_eq_true rfl⟩) (dg_preV sX_209 rfl K ST hP hS hA1 hA) rfl rfl hl.1 rfl (lv_room (Nat.le_of_ble_eq_true rfl)) dX6_readPart_45 ⟨Nat.le_of_ble_eq_true rfl, Nat.le_of_ble_eq_true rfl⟩) (fun x_4 S_5 hw_5 H locs hP hS => ?_)
    rw [hw_5.1] at hP
    obtain ⟨hq_5, w_5_0, -⟩ := hw_5
    have w_5_0 : 0 ≤ (x_4).toInt ∧ (x_4).toInt ≤ 1 := w_5_0
    refine lv_if_eq (tgt := 57) hx hb dX6_readPart_48 (by decide) (fun c_6 => ?_) (fun c_6 => ?_)
    · have jc_6 := dk_eqc (k := 0) (by decide +kernel) c_6
      refine lv_aload_n hx hb dX6_readPart_57 rfl (lv_at hl 0 rfl) ?_
      refine lv_bipush (v := 25) hx hb dX6_readPart_58 (by decide +kernel) ?_
      refine dg_calli hS hA1 hA (va_runV (As := [.int 25]) (rest := []) F (c_rd_isOwn l g D o S 25 en n0 f_n0 (by omega) ke f_ke (by omega) (by omega) I H.size) (cwV 1 hts (bw_V wB_681 wB_682 wB_683 wB_684 wB_680) rfl rfl rfl (by decide +kernel) ⟨Nat.le_of_ble_eq_true rfl, Nat.le_of_ble_eq_true rfl⟩) (dg_preV sX_209 rfl K ST hP hS hA1 hA) rfl rfl hl.1 rfl (lv_room (Nat.le_of_ble_eq_true rfl)) dX6_readPart_60 ⟨Nat.le_of_ble_eq_true rfl, Nat.le_of_ble_eq_true rfl⟩) (fun x_7 S_8 hw_8 H locs hP hS => ?_)
      rw [hw_8.1] at hP
      obtain ⟨hq_8, w_8_0, -⟩ := hw_8
      have w_8_0 : 0 ≤ (x_7).toInt ∧ (x_7).toInt ≤ 1 := w_8_0
      refine lv_if_eq (tgt := 74) hx hb dX6_readPart_63 (by decide) (fun c_9 => ?_) (fun c_9 => ?_)
      · have jc_9 := dk_eqc (k := 0) (by decide +kernel) c_9
        refine lv_aload_n hx hb dX6_readPart_74 rfl (lv_at hl 0 rfl) ?_
        refine lv_bipush (v := 26) hx hb dX6_readPart_75 (by decide +kernel) ?_
        refine dg_calli hS hA1 hA (va_runV (As := [.int 26]) (rest := []) F (c_rd_isOwn l g D o S 26 en n0 f_n0 (by omega) ke f_ke (by omega) (by omega) I H.size) (cwV 1 hts (bw_V wB_681 wB_682 wB_683 wB_684 wB_680) rfl rfl rfl (by decide +kernel) ⟨Nat.le_of_ble_eq_true rfl, Nat.le_of_ble_eq_true rfl⟩) (dg_preV sX_209 rfl K ST hP hS hA1 hA) rfl rfl hl.1 rfl (lv_room (Nat.le_of_ble_eq_true rfl)) dX6_readPart_77 ⟨Nat.le_of_ble_eq_true rfl, Nat.le_of_ble_eq_true rfl⟩) (fun x_10 S_11 hw_11 H locs hP hS => ?_)
        rw [hw_11.1] at hP
        obtain ⟨hq_11, w_11_0, -⟩ := hw_11
        have w_11_0 : 0 ≤ (x_10).toInt ∧ (x_10).toInt ≤ 1 := w_11_0
        refine lv_if_eq (tgt := 91) hx hb dX6_readPart_80 (by decide) (fun c_12 => ?_) (fun c_12 => ?_)
        · have jc_12 := dk_eqc (k := 0) (by decide +kernel) c_12
          refine lv_aload_n hx hb dX6_readPart_91 rfl (lv_at hl 0 rfl) ?_
          refine dg_get (C := RX6) (T := TX6) (N := 8) hx hb hts (fun w h => bw_mem (wU_X6 w h)) hown K hP sX_209 rfl 2 (by decide) (hts _ (bw_mem wB_673)) (fun _ h9 => h9) (v := .ref (o + 210)) (show S.1 209 2 = .ref (o + 210) from dg_I.rel (d := 1) I sX_209 (by decide +kernel)) dX6_readPart_92 ?_
          refine dg_get (C := RX9) (T := TX9) (N := 5) hx hb hts (fun w h => bw_mem (wU_X9 w h)) hown K hP sX_210 rfl 0 (by decide) (hts _ (bw_mem wB_674)) (fun _ h9 => h9) (v := .ref (o + 211)) (show S.1 210 0 = .ref (o + 211) from dg_I.rel (d := 1) I sX_210 (by decide +kernel)) dX6_readPart_95 ?_
          refine lv_aload_n hx hb dX6_readPart_98 rfl (lv_at hl 0 rfl) ?_
          refine dg_get (C := RX6) (T := TX6) (N := 8) hx hb hts (fun w h => bw_mem (wU_X6 w h)) hown K hP sX_209 rfl 4 (by decide) (hts _ (bw_mem wB_675)) (fun _ h9 => h9) (v := .int n0) f_n0 dX6_readPart_99 ?_
          have hin_13 : vp_in n0 1601 := (dk_inv (by omega) (by omega))
          refine dg_iald hx hb K hP sX_211 hin_13 dX6_readPart_102 (fun x_14 ex_14 => ?_)
          have hs_x_14 : (n0 : Int32).toInt = (en).toInt → (x_14).toInt = (ke).toInt := fun h => by have h9 := Int32.toInt_inj.mp h; rw [ex_14, h9]; exact congrArg Int32.toInt f_ke
          refine lv_iconst (v := 3) hx hb dX6_readPart_103 (by decide +kernel) ?_
          refine lv_icmp_ne (tgt := 129) hx hb dX6_readPart_104 (by decide) (fun c_15 => ?_) (fun c_15 => ?_)
          · have jc_15 := dk_neqc (k := 3) (by decide +kernel) c_15
            refine lv_aload_n hx hb dX6_readPart_129 rfl (lv_at hl 0 rfl) ?_
            refine dg_calli hS hA1 hA (va_runV (As := []) (rest := []) F (c_rd_factStep l g D o S en n0 f_n0 (by omega) ke f_ke (by omega) (by omega) I H.size) (cwV 0 hts (bw_V wB_757 wB_758 wB_759 wB_684 wB_756) rfl rfl rfl (by decide +kernel) ⟨Nat.le_of_ble_eq_true rfl, Nat.le_of_ble_eq_true rfl⟩) (dg_preV sX_209 rfl K ST hP hS hA1 hA) rfl rfl hl.1 rfl (lv_room (Nat.le_of_ble_eq_true rfl)) dX6_readPart_130 ⟨Nat.le_of_ble_eq_true rfl, Nat.le_of_ble_eq_true rfl⟩) (fun x_16 S_17 hw_17 H locs hP hS => ?_)
            rw [hw_17.1] at hP
            obtain ⟨hq_17, w_17_0, -⟩ := hw_17
            have w_17_0 : (-6) ≤ (x_16).toInt ∧ (x_16).toInt ≤ 0 := w_17_0
            refine lv_istore_n (lv' := [(2, .int x_16), (0, .ref (o + 209)), (1, .int 3)]) hx hb dX6_readPart_133 rfl hl (by decide) rfl (fun ls hl => ?_)
            refine lv_iload_n hx hb dX6_readPart_134 rfl (lv_at hl 0 rfl) ?_
            refine lv_if_ne (tgt := 144) hx hb dX6_readPart_135 (by decide) (fun c_18 => ?_) (fun c_18 => ?_)
            · have jc_18 := dk_neqc (k := 0) (by decide +kernel) c_18
              refine lv_aload_n hx hb dX6_readPart_144 rfl (lv_at hl 1 rfl) ?_
              refine lv_iload_n hx hb dX6_readPart_145 rfl (lv_at hl 0 rfl) ?_
              refine dg_callv hS hA1 hA (va_runV (As := [.int x_16]) (rest := []) F (c_rd_put l g D o S x_16 en n0 f_n0 (by omega) ke f_ke (by omega) (by omega) I H.size) (cwV 1 hts (bw_V wB_753 wB_754 wB_755 wB_684 wB_752) rfl rfl rfl (by decide +kernel) ⟨Nat.le_of_ble_eq_true rfl, Nat.le_of_ble_eq_true rfl⟩) (dg_preV sX_209 rfl K ST hP hS hA1 hA) rfl rfl hl.1 rfl (lv_room (Nat.le_of_ble_eq_true rfl)) dX6_readPart_146 ⟨Nat.le_of_ble_eq_true rfl, Nat.le_of_ble_eq_true rfl⟩) (fun S_19 hw_19 H locs hP hS => ?_)
              obtain ⟨I_19, m_19, -⟩ := hw_19
              have M_19 := dg_sm.tr M_0 m_19 (by decide) (by decide)
              refine lv_aload_n hx hb dX6_readPart_149 rfl (lv_at hl 1 rfl) ?_
              refine dg_callv hS hA1 hA (va_runV (As := []) (rest := []) F (c_rd_pass l g D o S_19 en n0 ((m_19.1 209 4 _ sX_209 (by decide)).trans f_n0) (by omega) ke ((congrFun (m_19.2 211 _ sX_211 (by decide)).1 _).trans f_ke) (by omega) (by omega) I_19 H.size) (cwV 0 hts (bw_V wB_686 wB_687 wB_688 wB_684 wB_685) rfl rfl rfl (by decide +kernel) ⟨Nat.le_of_ble_eq_true rfl, Nat.le_of_ble_eq_true rfl⟩) (dg_preV sX_209 rfl K ST hP hS hA1 hA) rfl rfl hl.1 rfl (lv_room (Nat.le_of_ble_eq_true rfl)) dX6_readPart_150 ⟨Nat.le_of_ble_eq_true rfl, Nat.le_of_ble_eq_true rfl⟩) (fun S_20 hw_20 H locs hP hS => ?_)
              obtain ⟨I_20, m_20, w_20_0, -⟩ := hw_20
              have M_20 := dg_sm.tr M_19 m_20 (by decide) (by decide)
              obtain ⟨y_21, f_y_21, w_20_0⟩ := w_20_0
              have w_20_0 : (y_21).toInt ≤ (en).toInt := w_20_0
              have b_y_21 : 0 ≤ (y_21).toInt ∧ (y_21).toInt ≤ 1600 := dg_I.intb (lo := 0) (hi := 1600) I_20 sX_209 (by decide +kernel) f_y_21
              refine lv_iconst (v := 1) hx hb dX6_readPart_153 (by decide +kernel) ?_
              have hz_22 : (1 : Int32).toInt = 1 := by decide +kernel
              have hz_23 : (1 : Int32).toInt = 1 := by decide +kernel
              refine W.widen (k := 0) (n := 0) (Nat.le_of_ble_eq_true rfl) (Nat.le_of_ble_eq_true rfl) ?_
              exact dg_iret hx hb hr hlocks (by decide +kernel) hP hS ⟨I_20, M_20, (by decide +kernel), ⟨y_21, f_y_21, (by omega)⟩, trivial⟩ dX6_readPart_154
            · have jc_18 := dk_eqc (k := 0) (by decide +kernel) c_18
              refine lv_aload_n hx hb dX6_readPart_138 rfl (lv_at hl 1 rfl) ?_
              refine lv_iconst (v := 1) hx hb dX6_readPart_139 (by decide +kernel) ?_
              refine dg_calli hS hA1 hA (va_runV (As := [.int 1]) (rest := []) F (c_rd_fail l g D o S 1 en n0 f_n0 (by omega) ke f_ke (by omega) (by omega) I H.size) (cwV 1 hts (bw_V wB_690 wB_691 wB_692 wB_684 wB_689) rfl rfl rfl (by decide +kernel) ⟨Nat.le_of_ble_eq_true rfl, Nat.le_of_ble_eq_true rfl⟩) (dg_preV sX_209 rfl K ST hP hS hA1 hA) rfl rfl hl.1 rfl (lv_room (Nat.le_of_ble_eq_true rfl)) dX6_readPart_140 ⟨Nat.le_of_ble_eq_true rfl, Nat.le_of_ble_eq_true rfl⟩) (fun x_24 S_25 hw_25 H locs hP hS => ?_)
              obtain ⟨I_25, m_25, w_25_0, -⟩ := hw_25
              have M_25 := dg_sm.tr M_0 m_25 (by decide) (by decide)
              have w_25_0 : 0 ≤ (x_24).toInt ∧ (x_24).toInt ≤ 0 := w_25_0
              refine W.widen (k := 0) (n := 0) (Nat.le_of_ble_eq_true rfl) (Nat.le_of_ble_eq_true rfl) ?_
              exact dg_iret hx hb hr hlocks (dk_znar (by omega) (by omega)) hP hS ⟨I_25, M_25, (by omega), ⟨n0, ((m_25.1 209 4 _ sX_209 (by decide)).trans f_n0), (by omega)⟩, trivial⟩ dX6_readPart_143
          · have jc_15 := dk_eqc (k := 3) (by decide +kernel) c_15
            refine lv_aload_n hx hb dX6_readPart_107 rfl (lv_at hl 0 rfl) ?_
            refine lv_aload_n hx hb dX6_readPart_108 rfl (lv_at hl 0 rfl) ?_
            refine dg_get (C := RX6) (T := TX6) (N := 8) hx hb hts (fun w h => bw_mem (wU_X6 w h)) hown K hP sX_209 rfl 2 (by decide) (hts _ (bw_mem wB_673)) (fun _ h9 => h9) (v := .ref (o + 210)) (show S.1 209 2 = .ref (o + 210) from dg_I.rel (d := 1) I sX_209 (by decide +kernel)) dX6_readPart_109 ?_
            refine dg_get (C := RX9) (T := TX9) (N := 5) hx hb hts (fun w h => bw_mem (wU_X9 w h)) hown K hP sX_210 rfl 2 (by decide) (hts _ (bw_mem wB_676)) (fun _ h9 => h9) (v := .ref (o + 213)) (show S.1 210 2 = .ref (o + 213) from dg_I.rel (d := 3) I sX_210 (by decide +kernel)) dX6_readPart_112 ?_
            refine lv_aload_n hx hb dX6_readPart_115 rfl (lv_at hl 0 rfl) ?_
            refine dg_get (C := RX6) (T := TX6) (N := 8) hx hb hts (fun w h => bw_mem (wU_X6 w h)) hown K hP sX_209 rfl 4 (by decide) (hts _ (bw_mem wB_675)) (fun _ h9 => h9) (v := .int n0) f_n0 dX6_readPart_116 ?_
            have hin_26 : vp_in n0 1601 := (dk_inv (by omega) (by omega))
            refine dg_iald hx hb K hP sX_213 hin_26 dX6_readPart_119 (fun x_27 ex_27 => ?_)
            refine dg_callv hS hA1 hA (va_runV (As := [.int x_27]) (rest := []) F (c_rd_put l g D o S x_27 en n0 f_n0 (by omega) ke f_ke (by omega) (by omega) I H.size) (cwV 1 hts (bw_V wB_753 wB_754 wB_755 wB_684 wB_752) rfl rfl rfl (by decide +kernel) ⟨Nat.le_of_ble_eq_true rfl, Nat.le_of_ble_eq_true rfl⟩) (dg_preV sX_209 rfl K ST hP hS hA1 hA) rfl rfl hl.1 rfl (lv_room (Nat.le_of_ble_eq_true rfl)) dX6_readPart_120 ⟨Nat.le_of_ble_eq_true rfl, Nat.le_of_ble_eq_true rfl⟩) (fun S_28 hw_28 H locs hP hS => ?_)
            obtain ⟨I_28, m_28, -⟩ := hw_28
            have M_28 := dg_sm.tr M_0 m_28 (by decide) (by decide)
            refine lv_aload_n hx hb dX6_readPart_123 rfl (lv_at hl 0 rfl) ?_
            refine dg_callv hS hA1 hA (va_runV (As := []) (rest := []) F (c_rd_pass l g D o S_28 en n0 ((m_28.1 209 4 _ sX_209 (by decide)).trans f_n0) (by omega) ke ((congrFun (m_28.2 211 _ sX_211 (by decide)).1 _).trans f_ke) (by omega) (by omega) I_28 H.size) (cwV 0 hts (bw_V wB_686 wB_687 wB_688 wB_684 wB_685) rfl rfl rfl (by decide +kernel) ⟨Nat.le_of_ble_eq_true rfl, Nat.le_of_ble_eq_true rfl⟩) (dg_preV sX_209 rfl K ST hP hS hA1 hA) rfl rfl hl.1 rfl (lv_room (Nat.le_of_ble_eq_true rfl)) dX6_readPart_124 ⟨Nat.le_of_ble_eq_true rfl, Nat.le_of_ble_eq_true rfl⟩) (fun S_29 hw_29 H locs hP hS => ?_)
            obtain ⟨I_29, m_29, w_29_0, -⟩ := hw_29
            have M_29 := dg_sm.tr M_28 m_29 (by decide) (by decide)
            obtain ⟨y_30, f_y_30, w_29_0⟩ := w_29_0
            have w_29_0 : (y_30).toInt ≤ (en).toInt := w_29_0
            have b_y_30 : 0 ≤ (y_30).toInt ∧ (y_30).toInt ≤ 1600 := dg_I.intb (lo := 0) (hi := 1600) I_29 sX_209 (by decide +kernel) f_y_30
            refine lv_iconst (v := 1) hx hb dX6_readPart_127 (by decide +kernel) ?_
            have hz_31 : (1 : Int32).toInt = 1 := by decide +kernel
            have hz_32 : (1 : Int32).toInt = 1 := by decide +kernel
            refine W.widen (k := 0) (n := 0) (Nat.le_of_ble_eq_true rfl) (Nat.le_of_ble_eq_true rfl) ?_
            exact dg_iret hx hb hr hlocks (by decide +kernel) hP hS ⟨I_29, M_29, (by decide +kernel), ⟨y_30, f_y_30, (by omega)⟩, trivial⟩ dX6_readPart_128
        · have jc_12 := dk_neqc (k := 0) (by decide +kernel) c_12
          refine lv_aload_n hx hb dX6_readPart_83 rfl (lv_at hl 0 rfl) ?_
          refine lv_iload_n hx hb dX6_readPart_84 rfl (lv_at hl 1 rfl) ?_
          refine lv_bipush (v := (-16)) hx hb dX6_readPart_85 (by decide +kernel) ?_
          refine dg_calli hS hA1 hA (va_runV (As := [.int 3, .int (-16)]) (rest := []) F (c_rd_readPair_3 l g D o S (-16) en n0 f_n0 (by omega) ke f_ke (by omega) (by omega) I H.size) (cwV 2 hts (bw_V wB_761 wB_762 wB_763 wB_684 wB_760) rfl rfl rfl (by decide +kernel) ⟨Nat.le_of_ble_eq_true rfl, Nat.le_of_ble_eq_true rfl⟩) (dg_preV sX_209 rfl K ST hP hS hA1 hA) rfl rfl hl.1 rfl (lv_room (Nat.le_of_ble_eq_true rfl)) dX6_readPart_87 ⟨Nat.le_of_ble_eq_true rfl, Nat.le_of_ble_eq_true rfl⟩) (fun x_33 S_34 hw_34 H locs hP hS => ?_)
          obtain ⟨I_34, m_34, w_34_0, w_34_1, -⟩ := hw_34
          have M_34 := dg_sm.tr M_0 m_34 (by decide) (by decide)
          have hz_35 : (-16 : Int32).toInt = (-16) := by decide +kernel
          have w_34_0 : 0 ≤ (x_33).toInt ∧ (x_33).toInt ≤ 1 := w_34_0
          obtain ⟨y_36, f_y_36, w_34_1⟩ := w_34_1
          have w_34_1 : (y_36).toInt ≤ (en).toInt := w_34_1
          have b_y_36 : 0 ≤ (y_36).toInt ∧ (y_36).toInt ≤ 1600 := dg_I.intb (lo := 0) (hi := 1600) I_34 sX_209 (by decide +kernel) f_y_36
          refine W.widen (k := 0) (n := 0) (Nat.le_of_ble_eq_true rfl) (Nat.le_of_ble_eq_true rfl) ?_
          exact dg_iret hx hb hr hlocks (dk_znar (by omega) (by omega)) hP hS ⟨I_34, M_34, (by omega), ⟨y_36, f_y_36, (by omega)⟩, trivial⟩ dX6_readPart_90
      · have jc_9 := dk_neqc (k := 0) (by decide +kernel) c_9
        refine lv_aload_n hx hb dX6_readPart_66 rfl (lv_at hl 0 rfl) ?_
        refine lv_iload_n hx hb dX6_readPart_67 rfl (lv_at hl 1 rfl) ?_
        refine lv_bipush (v := (-15)) hx hb dX6_readPart_68 (by decide +kernel) ?_
        refine dg_calli hS hA1 hA (va_runV (As := [.int 3, .int (-15)]) (rest := []) F (c_rd_readPair_3 l g D o S (-15) en n0 f_n0 (by omega) ke f_ke (by omega) (by omega) I H.size) (cwV 2 hts (bw_V wB_761 wB_762 wB_763 wB_684 wB_760) rfl rfl rfl (by decide +kernel) ⟨Nat.le_of_ble_eq_true rfl, Nat.le_of_ble_eq_true rfl⟩) (dg_preV sX_209 rfl K ST hP hS hA1 hA) rfl rfl hl.1 rfl (lv_room (Nat.le_of_ble_eq_true rfl)) dX6_readPart_70 ⟨Nat.le_of_ble_eq_true rfl, Nat.le_of_ble_eq_true rfl⟩) (fun x_37 S_38 hw_38 H locs hP hS => ?_)
        obtain ⟨I_38, m_38, w_38_0, w_38_1, -⟩ := hw_38
        have M_38 := dg_sm.tr M_0 m_38 (by decide) (by decide)
        have hz_39 : (-15 : Int32).toInt = (-15) := by decide +kernel
        have w_38_0 : 0 ≤ (x_37).toInt ∧ (x_37).toInt ≤ 1 := w_38_0
        obtain ⟨y_40, f_y_40, w_38_1⟩ := w_38_1
        have w_38_1 : (y_40).toInt ≤ (en).toInt := w_38_1
        have b_y_40 : 0 ≤ (y_40).toInt ∧ (y_40).toInt ≤ 1600 := dg_I.intb (lo := 0) (hi := 1600) I_38 sX_209 (by decide +kernel) f_y_40
        refine W.widen (k := 0) (n := 0) (Nat.le_of_ble_eq_true rfl) (Nat.le_of_ble_eq_true rfl) ?_
        exact dg_iret hx hb hr hlocks (dk_znar (by omega) (by omega)) hP hS ⟨I_38, M_38, (by omega), ⟨y_40, f_y_40, (by omega)⟩, trivial⟩ dX6_readPart_73
    · have jc_6 := dk_neqc (k := 0) (by decide +kernel) c_6
      refine lv_aload_n hx hb dX6_readPart_51 rfl (lv_at hl 0 rfl) ?_
      refine lv_iload_n hx hb dX6_readPart_52 rfl (lv_at hl 1 rfl) ?_
      refine dg_calli hS hA1 hA (va_runV (As := [.int 3]) (rest := []) F (c_rd_readChoice_3 l g D o S en n0 f_n0 (by omega) ke f_ke (by omega) (by omega) I H.size) (cwV 1 hts (bw_V wB_765 wB_766 wB_767 wB_684 wB_764) rfl rfl rfl (by decide +kernel) ⟨Nat.le_of_ble_eq_true rfl, Nat.le_of_ble_eq_true rfl⟩) (dg_preV sX_209 rfl K ST hP hS hA1 hA) rfl rfl hl.1 rfl (lv_room (Nat.le_of_ble_eq_true rfl)) dX6_readPart_53 ⟨Nat.le_of_ble_eq_true rfl, Nat.le_of_ble_eq_true rfl⟩) (fun x_41 S_42 hw_42 H locs hP hS => ?_)
      obtain ⟨I_42, m_42, w_42_0, w_42_1, -⟩ := hw_42
      have M_42 := dg_sm.tr M_0 m_42 (by decide) (by decide)
      have w_42_0 : 0 ≤ (x_41).toInt ∧ (x_41).toInt ≤ 1 := w_42_0
      obtain ⟨y_43, f_y_43, w_42_1⟩ := w_42_1
      have w_42_1 : (y_43).toInt ≤ (en).toInt := w_42_1
      have b_y_43 : 0 ≤ (y_43).toInt ∧ (y_43).toInt ≤ 1600 := dg_I.intb (lo := 0) (hi := 1600) I_42 sX_209 (by decide +kernel) f_y_43
      refine W.widen (k := 0) (n := 0) (Nat.le_of_ble_eq_true rfl) (Nat.le_of_ble_eq_true rfl) ?_
      exact dg_iret hx hb hr hlocks (dk_znar (by omega) (by omega)) hP hS ⟨I_42, M_42, (by omega), ⟨y_43, f_y_43, (by omega)⟩, trivial⟩ dX6_readPart_56
  · have jc_3 := dk_neqc (k := 0) (by decide +kernel) c_3
    refine lv_aload_n hx hb dX6_readPart_9 rfl (lv_at hl 0 rfl) ?_
    refine lv_iload_n hx hb dX6_readPart_10 rfl (lv_at hl 1 rfl) ?_
    refine dg_calli hS hA1 hA (va_runV (As := [.int 3]) (rest := []) F (c_rd_passOpening_3 l g D o S en n0 f_n0 (by omega) ke f_ke (by omega) (by omega) I H.size) (cwV 1 hts (bw_V wB_745 wB_746 wB_747 wB_684 wB_744) rfl rfl rfl (by decide +kernel) ⟨Nat.le_of_ble_eq_true rfl, Nat.le_of_ble_eq_true rfl⟩) (dg_preV sX_209 rfl K ST hP hS hA1 hA) rfl rfl hl.1 rfl (lv_room (Nat.le_of_ble_eq_true rfl)) dX6_readPart_11 ⟨Nat.le_of_ble_eq_true rfl, Nat.le_of_ble_eq_true rfl⟩) (fun x_44 S_45 hw_45 H locs hP hS => ?_)
    obtain ⟨I_45, m_45, w_45_0, w_45_1, -⟩ := hw_45
    have M_45 := dg_sm.tr M_0 m_45 (by decide) (by decide)
    have w_45_0 : 1 ≤ (x_44).toInt ∧ (x_44).toInt ≤ 1 := w_45_0
    obtain ⟨y_46, f_y_46, w_45_1⟩ := w_45_1
    have w_45_1 : (y_46).toInt ≤ (en).toInt := w_45_1
    have b_y_46 : 0 ≤ (y_46).toInt ∧ (y_46).toInt ≤ 1600 := dg_I.intb (lo := 0) (hi := 1600) I_45 sX_209 (by decide +kernel) f_y_46
    refine lv_if_eq (tgt := 40) hx hb dX6_readPart_14 (by decide) (fun c => absurd c (fun z => absurd (dk_eqc (k := 0) (by decide +kernel) z) (by omega))) (fun _ => ?_)
    refine lv_aload_n hx hb dX6_readPart_17 rfl (lv_at hl 0 rfl) ?_
    refine lv_iload_n hx hb dX6_readPart_18 rfl (lv_at hl 1 rfl) ?_
    refine lv_iconst (v := 1) hx hb dX6_readPart_19 (by decide +kernel) ?_
    refine lv_iadd hx hb dX6_readPart_20 ?_
    refine dk_top (y := 4) (by decide +kernel) ?_
    refine dg_calli hS hA1 hA (va_runV (As := [.int 4]) (rest := []) F (c_rd_readSum_4 l g D o S_45 en y_46 f_y_46 (by omega) ke ((congrFun (m_45.2 211 _ sX_211 (by decide)).1 _).trans f_ke) (by omega) (by omega) I_45 H.size) (cwV 1 hts (bw_V wB_785 wB_786 wB_787 wB_684 wB_784) rfl rfl rfl (by decide +kernel) ⟨Nat.le_of_ble_eq_true rfl, Nat.le_of_ble_eq_true rfl⟩) (dg_preV sX_209 rfl K ST hP hS hA1 hA) rfl rfl hl.1 rfl (lv_room (Nat.le_of_ble_eq_true rfl)) dX6_readPart_21 ⟨Nat.le_of_ble_eq_true rfl, Nat.le_of_ble_eq_true rfl⟩) (fun x_47 S_48 hw_48 H locs hP hS => ?_)
    obtain ⟨I_48, m_48, w_48_0, w_48_1, -⟩ := hw_48
    have M_48 := dg_sm.tr M_45 m_48 (by decide) (by decide)
    have w_48_0 : 0 ≤ (x_47).toInt ∧ (x_47).toInt ≤ 1 := w_48_0
    obtain ⟨y_49, f_y_49, w_48_1⟩ := w_48_1
    have w_48_1 : (y_49).toInt ≤ (en).toInt := w_48_1
    have b_y_49 : 0 ≤ (y_49).toInt ∧ (y_49).toInt ≤ 1600 := dg_I.intb (lo := 0) (hi := 1600) I_48 sX_209 (by decide +kernel) f_y_49
    refine lv_if_eq (tgt := 40) hx hb dX6_readPart_24 (by decide) (fun c_50 => ?_) (fun c_50 => ?_)
    · have jc_50 := dk_eqc (k := 0) (by decide +kernel) c_50
      refine lv_iconst (v := 0) hx hb dX6_readPart_40 (by decide +kernel) ?_
      have hz_51 : (0 : Int32).toInt = 0 := by decide +kernel
      have hz_52 : (0 : Int32).toInt = 0 := by decide +kernel
      refine W.widen (k := 0) (n := 0) (Nat.le_of_ble_eq_true rfl) (Nat.le_of_ble_eq_true rfl) ?_
      exact dg_iret hx hb hr hlocks (by decide +kernel) hP hS ⟨I_48, M_48, (by decide +kernel), ⟨y_49, f_y_49, (by omega)⟩, trivial⟩ dX6_readPart_41
    · have jc_50 := dk_neqc (k := 0) (by decide +kernel) c_50
      refine lv_aload_n hx hb dX6_readPart_27 rfl (lv_at hl 0 rfl) ?_
      refine lv_bipush (v := 41) hx hb dX6_readPart_28 (by decide +kernel) ?_
      refine dg_calli hS hA1 hA (va_runV (As := [.int 41]) (rest := []) F (c_rd_takeSign l g D o S_48 41 en y_49 f_y_49 (by omega) ke ((congrFun ((m_48.2 211 _ sX_211 (by decide)).1.trans (m_45.2 211 _ sX_211 (by decide)).1) _).trans f_ke) (by omega) (by omega) I_48 H.size) (cwV 1 hts (bw_V wB_809 wB_810 wB_811 wB_684 wB_808) rfl rfl rfl (by decide +kernel) ⟨Nat.le_of_ble_eq_true rfl, Nat.le_of_ble_eq_true rfl⟩) (dg_preV sX_209 rfl K ST hP hS hA1 hA) rfl rfl hl.1 rfl (lv_room (Nat.le_of_ble_eq_true rfl)) dX6_readPart_30 ⟨Nat.le_of_ble_eq_true rfl, Nat.le_of_ble_eq_true rfl⟩) (fun x_53 S_54 hw_54 H locs hP hS => ?_)
      obtain ⟨I_54, m_54, w_54_0, w_54_1, -⟩ := hw_54
      have M_54 := dg_sm.tr M_48 m_54 (by decide) (by decide)
      have hz_55 : (41 : Int32).toInt = 41 := by decide +kernel
      have w_54_0 : 0 ≤ (x_53).toInt ∧ (x_53).toInt ≤ 1 := w_54_0
      obtain ⟨y_56, f_y_56, w_54_1⟩ := w_54_1
      have w_54_1 : (y_56).toInt ≤ (en).toInt := w_54_1
      have b_y_56 : 0 ≤ (y_56).toInt ∧ (y_56).toInt ≤ 1600 := dg_I.intb (lo := 0) (hi := 1600) I_54 sX_209 (by decide +kernel) f_y_56
      refine lv_if_eq (tgt := 40) hx hb dX6_readPart_33 (by decide) (fun c_57 => ?_) (fun c_57 => ?_)
      · have jc_57 := dk_eqc (k := 0) (by decide +kernel) c_57
        refine lv_iconst (v := 0) hx hb dX6_readPart_40 (by decide +kernel) ?_
        have hz_58 : (0 : Int32).toInt = 0 := by decide +kernel
        have hz_59 : (0 : Int32).toInt = 0 := by decide +kernel
        refine W.widen (k := 0) (n := 0) (Nat.le_of_ble_eq_true rfl) (Nat.le_of_ble_eq_true rfl) ?_
        exact dg_iret hx hb hr hlocks (by decide +kernel) hP hS ⟨I_54, M_54, (by decide +kernel), ⟨y_56, f_y_56, (by omega)⟩, trivial⟩ dX6_readPart_41
      · have jc_57 := dk_neqc (k := 0) (by decide +kernel) c_57
        refine lv_iconst (v := 1) hx hb dX6_readPart_36 (by decide +kernel) ?_
        refine lv_goto (tgt := 41) hx hb dX6_readPart_37 (by decide) ?_
        have hz_60 : (1 : Int32).toInt = 1 := by decide +kernel
        have hz_61 : (1 : Int32).toInt = 1 := by decide +kernel
        refine W.widen (k := 0) (n := 0) (Nat.le_of_ble_eq_true rfl) (Nat.le_of_ble_eq_true rfl) ?_
        exact dg_iret hx hb hr hlocks (by decide +kernel) hP hS ⟨I_54, M_54, (by decide +kernel), ⟨y_56, f_y_56, (by omega)⟩, trivial⟩ dX6_readPart_41
set_option maxHeartbeats 8000000 in
set_option maxRecDepth 100000 in
theorem c_rd_readProduct_3 (l : Launch) (g : Nat → ClassId) (D : va_G) (o : Nat) (S : dg_S) (en : Int32) (n0 : Int32) (f_n0 : S.1 209 4 = .int n0) (b_n0 : 0 ≤ (n0).toInt ∧ (n0).toInt ≤ 1600) (ke : Int32) (f_ke : S.2.1 211 (en : Int32).toNatClampNeg = ke) (b_ke : 0 ≤ (ke).toInt ∧ (ke).toInt ≤ 0) (hne : (n0).toInt ≤ (en).toInt ∧ (en).toInt ≤ 1600 ∧ 0 ≤ (en).toInt) (I : CX o S) (sz : Nat) : Met l yX6_readProduct (bw yX6_readProduct cX6_readProduct 5 (some .boolean)) ({ frames := 38, cells := 0, slots := 0, locals := 873 } : Room) (dk_Pc g D (dg_w g shX o rfX S) sz [.ref (o + 209), .int 3]) (va_Qi (fun (r : Int32) S' => CX o S' ∧ dg_sm shX [(31, 0), (31, 1), (31, 4), (31, 7)] [28] S S' ∧ (0 ≤ (r).toInt ∧ (r).toInt ≤ 1) ∧ (∃ y9 : Int32, S'.1 209 4 = .int y9 ∧ ((y9).toInt ≤ (en).toInt)) ∧ True) (dg_B g D shX o rfX) (dg_A o shX.length sz)) 0 0 (dg_A o shX.length sz) := by
  refine dg_met (cc := cX6_readProduct) (maxL := 5) (ret := (some .boolean)) (by decide) rfl (Nat.le_of_ble_eq_true rfl) ?_
  intro p e s m args below meth c A hAe harg hx hb hr hml hts hown hlocks hin hP K hS hA1 hA ST hsz ls hl
  rw [← hAe]
  have F : CallFix p m c cX6_readProduct 5 s args (bw yX6_readProduct cX6_readProduct 5 (some .boolean)) RX6 := ⟨hx, hb, hml, hown, hts⟩
  have hl : lv_has ls 5 [(0, .ref (o + 209)), (1, .int 3)] := hl
  have M_0 : dg_sm shX [(31, 0), (31, 1), (31, 4), (31, 7)] [28] S S := dg_sm.rf
  refine lv_aload_n hx hb dX6_readProduct_0 rfl (lv_at hl 0 rfl) ?_
  refine lv_iload_n hx hb dX6_readProduct_1 rfl (lv_at hl 1 rfl) ?_
  refine dg_calli hS hA1 hA (va_runV (As := [.int 3]) (rest := []) F (c_rd_readPart_3 l g D o S en n0 f_n0 (by omega) ke f_ke (by omega) (by omega) I s.heap.size) (cwV 1 hts (bw_V wB_769 wB_770 wB_771 wB_684 wB_768) rfl rfl rfl (by decide +kernel) ⟨Nat.le_of_ble_eq_true rfl, Nat.le_of_ble_eq_true rfl⟩) (dg_preV sX_209 rfl K ST hP hS hA1 hA) rfl rfl hl.1 rfl (lv_room (Nat.le_of_ble_eq_true rfl)) dX6_readProduct_2 ⟨Nat.le_of_ble_eq_true rfl, Nat.le_of_ble_eq_true rfl⟩) (fun x_1 S_2 hw_2 H locs hP hS => ?_)
  obtain ⟨I_2, m_2, w_2_0, w_2_1, -⟩ := hw_2
  have M_2 := dg_sm.tr M_0 m_2 (by decide) (by decide)
  have w_2_0 : 0 ≤ (x_1).toInt ∧ (x_1).toInt ≤ 1 := w_2_0
  obtain ⟨y_3, f_y_3, w_2_1⟩ := w_2_1
  have w_2_1 : (y_3).toInt ≤ (en).toInt := w_2_1
  have b_y_3 : 0 ≤ (y_3).toInt ∧ (y_3).toInt ≤ 1600 := dg_I.intb (lo := 0) (hi := 1600) I_2 sX_209 (by decide +kernel) f_y_3
  refine lv_istore_n (lv' := [(2, .int x_1), (0, .ref (o + 209)), (1, .int 3)]) hx hb dX6_readProduct_5 rfl hl (by decide) rfl (fun ls hl => ?_)
  refine lv_aload_n hx hb dX6_readProduct_6 rfl (lv_at hl 1 rfl) ?_
  refine dg_calli hS hA1 hA (va_runV (As := []) (rest := []) F (c_rd_productStep l g D o S_2 en y_3 f_y_3 (by omega) ke ((congrFun (m_2.2 211 _ sX_211 (by decide)).1 _).trans f_ke) (by omega) (by omega) I_2 H.size) (cwV 0 hts (bw_V wB_773 wB_774 wB_775 wB_684 wB_772) rfl rfl rfl (by decide +kernel) ⟨Nat.le_of_ble_eq_true rfl, Nat.le_of_ble_eq_true rfl⟩) (dg_preV sX_209 rfl K ST hP hS hA1 hA) rfl rfl hl.1 rfl (lv_room (Nat.le_of_ble_eq_true rfl)) dX6_readProduct_7 ⟨Nat.le_of_ble_eq_true rfl, Nat.le_of_ble_eq_true rfl⟩) (fun x_4 S_5 hw_5 H locs hP hS => ?_)
  rw [hw_5.1] at hP
  obtain ⟨hq_5, w_5_0, -⟩ := hw_5
  have w_5_0 : (-14) ≤ (x_4).toInt ∧ (x_4).toInt ≤ 0 := w_5_0
  refine lv_istore_n (lv' := [(3, .int x_4), (2, .int x_1), (0, .ref (o + 209)), (1, .int 3)]) hx hb dX6_readProduct_10 rfl hl (by decide) rfl (fun ls hl => ?_)
  refine lv_iconst (v := 0) hx hb dX6_readProduct_11 (by decide +kernel) ?_
  refine lv_istore (lv' := [(4, .int 0), (3, .int x_4), (2, .int x_1), (0, .ref (o + 209)), (1, .int 3)]) hx hb dX6_readProduct_12 hl (by decide) rfl (fun ls hl => ?_)
  have L_87 : ∀ (n : Nat) (x_82 : Int32) (x_83 : Int32) (x_84 : Int32) (x_85 : Int32), (0 ≤ (x_82).toInt ∧ (x_82).toInt ≤ 1600) → ((-14) ≤ (x_83).toInt ∧ (x_83).toInt ≤ 0) → (0 ≤ (x_84).toInt ∧ (x_84).toInt ≤ 1) → (0 ≤ (x_85).toInt ∧ (x_85).toInt ≤ 1600) → ((x_85).toInt ≤ (en).toInt) → ((1601 - (x_82).toInt).toNat < n) → ∀ S_86 : dg_S, CX o S_86 → dg_sm shX [(31, 0), (31, 1), (31, 4), (31, 7)] [28] S S_86 → S_86.1 209 4 = .int x_85 → ∀ (H : Heap) (locs : List Loc), va_P D vwCl (dg_w g shX o rfX S_86) H → va_S A s.heap H locs → ∀ ls : Array Slot, lv_has ls 5 [(4, .int x_82), (3, .int x_83), (2, .int x_84), (0, .ref (o + 209)), (1, .int 3)] → W p l e ({ frames := 38, cells := 0, slots := 0, locals := 873 } : Room) s m args below meth c H locs 0 0 (MQ below (va_Qi (fun (r : Int32) S' => CX o S' ∧ dg_sm shX [(31, 0), (31, 1), (31, 4), (31, 7)] [28] S S' ∧ (0 ≤ (r).toInt ∧ (r).toInt ≤ 1) ∧ (∃ y9 : Int32, S'.1 209 4 = .int y9 ∧ ((y9).toInt ≤ (en).toInt)) ∧ True) (dg_B g D shX o rfX) A) args s 0 0 A) (F0 m 14 ls []) := by
    intro n
    induction n with
    | zero =>
      intro x_82 x_83 x_84 x_85 b_x_82 b_x_83 b_x_84 b_x_85 rel_0 hmu S_86 I_86 M_86 ff_86_4_209 H locs hP hS ls hl
      omega
    | succ n ih =>
      intro x_82 x_83 x_84 x_85 b_x_82 b_x_83 b_x_84 b_x_85 rel_0 hmu S_86 I_86 M_86 ff_86_4_209 H locs hP hS ls hl
      refine lv_iload hx hb dX6_readProduct_14 (lv_at hl 0 rfl) ?_
      refine lv_sipush (v := 1600) hx hb dX6_readProduct_16 (by decide +kernel) ?_
      refine lv_icmp_ge (tgt := 56) hx hb dX6_readProduct_19 (by decide) (fun c_88 => ?_) (fun c_88 => ?_)
      · have jc_88 := dk_gec (k := 1600) (by decide +kernel) c_88
        refine lv_iload_n hx hb dX6_readProduct_56 rfl (lv_at hl 2 rfl) ?_
        refine W.widen (k := 0) (n := 0) (Nat.le_of_ble_eq_true rfl) (Nat.le_of_ble_eq_true rfl) ?_
        exact dg_iret hx hb hr hlocks (dk_znar (by omega) (by omega)) hP hS ⟨I_86, M_86, (by omega), ⟨x_85, ff_86_4_209, (by omega)⟩, trivial⟩ dX6_readProduct_57
      · have jc_88 := dk_ngec (k := 1600) (by decide +kernel) c_88
        refine lv_iload_n hx hb dX6_readProduct_22 rfl (lv_at hl 2 rfl) ?_
        refine lv_if_eq (tgt := 56) hx hb dX6_readProduct_23 (by decide) (fun c_89 => ?_) (fun c_89 => ?_)
        · have jc_89 := dk_eqc (k := 0) (by decide +kernel) c_89
          refine lv_iload_n hx hb dX6_readProduct_56 rfl (lv_at hl 2 rfl) ?_
          refine W.widen (k := 0) (n := 0) (Nat.le_of_ble_eq_true rfl) (Nat.le_of_ble_eq_true rfl) ?_
          exact dg_iret hx hb hr hlocks (dk_znar (by omega) (by omega)) hP hS ⟨I_86, M_86, (by omega), ⟨x_85, ff_86_4_209, (by omega)⟩, trivial⟩ dX6_readProduct_57
        · have jc_89 := dk_neqc (k := 0) (by decide +kernel) c_89
          refine lv_iload_n hx hb dX6_readProduct_26 rfl (lv_at hl 1 rfl) ?_
          refine lv_if_eq (tgt := 56) hx hb dX6_readProduct_27 (by decide) (fun c_90 => ?_) (fun c_90 => ?_)
          · have jc_90 := dk_eqc (k := 0) (by decide +kernel) c_90
            refine lv_iload_n hx hb dX6_readProduct_56 rfl (lv_at hl 2 rfl) ?_
            refine W.widen (k := 0) (n := 0) (Nat.le_of_ble_eq_true rfl) (Nat.le_of_ble_eq_true rfl) ?_
            exact dg_iret hx hb hr hlocks (dk_znar (by omega) (by omega)) hP hS ⟨I_86, M_86, (by omega), ⟨x_85, ff_86_4_209, (by omega)⟩, trivial⟩ dX6_readProduct_57
          · have jc_90 := dk_neqc (k := 0) (by decide +kernel) c_90
            refine lv_aload_n hx hb dX6_readProduct_30 rfl (lv_at hl 3 rfl) ?_
            refine dg_callv hS hA1 hA (va_runV (As := []) (rest := []) F (c_rd_pass l g D o S_86 en x_85 ff_86_4_209 (by omega) ke ((congrFun (M_86.2 211 _ sX_211 (by decide)).1 _).trans f_ke) (by omega) (by omega) I_86 H.size) (cwV 0 hts (bw_V wB_686 wB_687 wB_688 wB_684 wB_685) rfl rfl rfl (by decide +kernel) ⟨Nat.le_of_ble_eq_true rfl, Nat.le_of_ble_eq_true rfl⟩) (dg_preV sX_209 rfl K ST hP hS hA1 hA) rfl rfl hl.1 rfl (lv_room (Nat.le_of_ble_eq_true rfl)) dX6_readProduct_31 ⟨Nat.le_of_ble_eq_true rfl, Nat.le_of_ble_eq_true rfl⟩) (fun S_91 hw_91 H locs hP hS => ?_)
            obtain ⟨I_91, m_91, w_91_0, -⟩ := hw_91
            have M_91 := dg_sm.tr M_86 m_91 (by decide) (by decide)
            obtain ⟨y_92, f_y_92, w_91_0⟩ := w_91_0
            have w_91_0 : (y_92).toInt ≤ (en).toInt := w_91_0
            have b_y_92 : 0 ≤ (y_92).toInt ∧ (y_92).toInt ≤ 1600 := dg_I.intb (lo := 0) (hi := 1600) I_91 sX_209 (by decide +kernel) f_y_92
            refine lv_aload_n hx hb dX6_readProduct_34 rfl (lv_at hl 3 rfl) ?_
            refine lv_iload_n hx hb dX6_readProduct_35 rfl (lv_at hl 4 rfl) ?_
            refine dg_calli hS hA1 hA (va_runV (As := [.int 3]) (rest := []) F (c_rd_readPart_3 l g D o S_91 en y_92 f_y_92 (by omega) ke ((congrFun ((m_91.2 211 _ sX_211 (by decide)).1.trans (M_86.2 211 _ sX_211 (by decide)).1) _).trans f_ke) (by omega) (by omega) I_91 H.size) (cwV 1 hts (bw_V wB_769 wB_770 wB_771 wB_684 wB_768) rfl rfl rfl (by decide +kernel) ⟨Nat.le_of_ble_eq_true rfl, Nat.le_of_ble_eq_true rfl⟩) (dg_preV sX_209 rfl K ST hP hS hA1 hA) rfl rfl hl.1 rfl (lv_room (Nat.le_of_ble_eq_true rfl)) dX6_readProduct_36 ⟨Nat.le_of_ble_eq_true rfl, Nat.le_of_ble_eq_true rfl⟩) (fun x_93 S_94 hw_94 H locs hP hS => ?_)
            obtain ⟨I_94, m_94, w_94_0, w_94_1, -⟩ := hw_94
            have M_94 := dg_sm.tr M_91 m_94 (by decide) (by decide)
            have w_94_0 : 0 ≤ (x_93).toInt ∧ (x_93).toInt ≤ 1 := w_94_0
            obtain ⟨y_95, f_y_95, w_94_1⟩ := w_94_1
            have w_94_1 : (y_95).toInt ≤ (en).toInt := w_94_1
            have b_y_95 : 0 ≤ (y_95).toInt ∧ (y_95).toInt ≤ 1600 := dg_I.intb (lo := 0) (hi := 1600) I_94 sX_209 (by decide +kernel) f_y_95
            refine lv_istore_n (lv' := [(2, .int x_93), (4, .int x_82), (3, .int x_83), (0, .ref (o + 209)), (1, .int 3)]) hx hb dX6_readProduct_39 rfl hl (by decide) rfl (fun ls hl => ?_)
            refine lv_aload_n hx hb dX6_readProduct_40 rfl (lv_at hl 3 rfl) ?_
            refine lv_iload_n hx hb dX6_readProduct_41 rfl (lv_at hl 2 rfl) ?_
            refine dg_callv hS hA1 hA (va_runV (As := [.int x_83]) (rest := []) F (c_rd_put l g D o S_94 x_83 en y_95 f_y_95 (by omega) ke ((congrFun ((m_94.2 211 _ sX_211 (by decide)).1.trans ((m_91.2 211 _ sX_211 (by decide)).1.trans (M_86.2 211 _ sX_211 (by decide)).1)) _).trans f_ke) (by omega) (by omega) I_94 H.size) (cwV 1 hts (bw_V wB_753 wB_754 wB_755 wB_684 wB_752) rfl rfl rfl (by decide +kernel) ⟨Nat.le_of_ble_eq_true rfl, Nat.le_of_ble_eq_true rfl⟩) (dg_preV sX_209 rfl K ST hP hS hA1 hA) rfl rfl hl.1 rfl (lv_room (Nat.le_of_ble_eq_true rfl)) dX6_readProduct_42 ⟨Nat.le_of_ble_eq_true rfl, Nat.le_of_ble_eq_true rfl⟩) (fun S_96 hw_96 H locs hP hS => ?_)
            obtain ⟨I_96, m_96, -⟩ := hw_96
            have M_96 := dg_sm.tr M_94 m_96 (by decide) (by decide)
            refine lv_aload_n hx hb dX6_readProduct_45 rfl (lv_at hl 3 rfl) ?_
            refine dg_calli hS hA1 hA (va_runV (As := []) (rest := []) F (c_rd_productStep l g D o S_96 en y_95 ((m_96.1 209 4 _ sX_209 (by decide)).trans f_y_95) (by omega) ke ((congrFun ((m_96.2 211 _ sX_211 (by decide)).1.trans ((m_94.2 211 _ sX_211 (by decide)).1.trans ((m_91.2 211 _ sX_211 (by decide)).1.trans (M_86.2 211 _ sX_211 (by decide)).1))) _).trans f_ke) (by omega) (by omega) I_96 H.size) (cwV 0 hts (bw_V wB_773 wB_774 wB_775 wB_684 wB_772) rfl rfl rfl (by decide +kernel) ⟨Nat.le_of_ble_eq_true rfl, Nat.le_of_ble_eq_true rfl⟩) (dg_preV sX_209 rfl K ST hP hS hA1 hA) rfl rfl hl.1 rfl (lv_room (Nat.le_of_ble_eq_true rfl)) dX6_readProduct_46 ⟨Nat.le_of_ble_eq_true rfl, Nat.le_of_ble_eq_true rfl⟩) (fun x_97 S_98 hw_98 H locs hP hS => ?_)
            rw [hw_98.1] at hP
            obtain ⟨hq_98, w_98_0, -⟩ := hw_98
            have w_98_0 : (-14) ≤ (x_97).toInt ∧ (x_97).toInt ≤ 0 := w_98_0
            refine lv_istore_n (lv' := [(3, .int x_97), (2, .int x_93), (4, .int x_82), (0, .ref (o + 209)), (1, .int 3)]) hx hb dX6_readProduct_49 rfl hl (by decide) rfl (fun ls hl => ?_)
            obtain ⟨x_99, ex_99⟩ : ∃ z, z = x_82 + 1 := ⟨_, rfl⟩
            have jx_99 : (x_99).toInt = (x_82).toInt + 1 := by rw [ex_99]; exact dk_addT rfl (by decide +kernel) (by omega) (by omega)
            refine lv_iinc (v := x_99) (lv' := [(4, .int x_99), (3, .int x_97), (2, .int x_93), (0, .ref (o + 209)), (1, .int 3)]) hx hb dX6_readProduct_50 hl (k := 2) rfl (by rw [ex_99]; rfl) (by decide) rfl (fun ls hl => ?_)
            refine lv_goto (tgt := 14) hx hb dX6_readProduct_53 (by decide) ?_
            exact ih x_99 x_97 x_93 y_95 (by omega) (by omega) (by omega) (by omega) (by omega) (by omega) S_96 I_96 M_96 ((m_96.1 209 4 _ sX_209 (by decide)).trans f_y_95) _ _ hP hS _ (lv_sub hl [0, 1, 2, 3, 4] rfl)
  have hz_100 : (0 : Int32).toInt = 0 := by decide +kernel
  have hz_101 : (0 : Int32).toInt = 0 := by decide +kernel
  have hz_102 : (0 : Int32).toInt = 0 := by decide +kernel
  exact L_87 ((1601 - ((0 : Int32)).toInt).toNat + 1) 0 x_4 x_1 y_3 (by decide +kernel) (by omega) (by omega) (by omega) (by omega) (by omega) S_2 I_2 M_2 f_y_3 _ _ hP hS _ (lv_sub hl [0, 1, 2, 3, 4] rfl)
set_option maxHeartbeats 8000000 in
set_option maxRecDepth 100000 in
theorem c_rd_readSum_3 (l : Launch) (g : Nat → ClassId) (D : va_G) (o : Nat) (S : dg_S) (en : Int32) (n0 : Int32) (f_n0 : S.1 209 4 = .int n0) (b_n0 : 0 ≤ (n0).toInt ∧ (n0).toInt ≤ 1600) (ke : Int32) (f_ke : S.2.1 211 (en : Int32).toNatClampNeg = ke) (b_ke : 0 ≤ (ke).toInt ∧ (ke).toInt ≤ 0) (hne : (n0).toInt ≤ (en).toInt ∧ (en).toInt ≤ 1600 ∧ 0 ≤ (en).toInt) (I : CX o S) (sz : Nat) : Met l yX6_readSum (bw yX6_readSum cX6_readSum 5 (some .boolean)) ({ frames := 39, cells := 0, slots := 0, locals := 897 } : Room) (dk_Pc g D (dg_w g shX o rfX S) sz [.ref (o + 209), .int 3]) (va_Qi (fun (r : Int32) S' => CX o S' ∧ dg_sm shX [(31, 0), (31, 1), (31, 4), (31, 7)] [28] S S' ∧ (0 ≤ (r).toInt ∧ (r).toInt ≤ 1) ∧ (∃ y9 : Int32, S'.1 209 4 = .int y9 ∧ ((y9).toInt ≤ (en).toInt)) ∧ True) (dg_B g D shX o rfX) (dg_A o shX.length sz)) 0 0 (dg_A o shX.length sz) := by
  refine dg_met (cc := cX6_readSum) (maxL := 5) (ret := (some .boolean)) (by decide) rfl (Nat.le_of_ble_eq_true rfl) ?_
  intro p e s m args below meth c A hAe harg hx hb hr hml hts hown hlocks hin hP K hS hA1 hA ST hsz ls hl
  rw [← hAe]
  have F : CallFix p m c cX6_readSum 5 s args (bw yX6_readSum cX6_readSum 5 (some .boolean)) RX6 := ⟨hx, hb, hml, hown, hts⟩
  have hl : lv_has ls 5 [(0, .ref (o + 209)), (1, .int 3)] := hl
  have M_0 : dg_sm shX [(31, 0), (31, 1), (31, 4), (31, 7)] [28] S S := dg_sm.rf
  refine lv_aload_n hx hb dX6_readSum_0 rfl (lv_at hl 0 rfl) ?_
  refine lv_iload_n hx hb dX6_readSum_1 rfl (lv_at hl 1 rfl) ?_
  refine dg_calli hS hA1 hA (va_runV (As := [.int 3]) (rest := []) F (c_rd_readProduct_3 l g D o S en n0 f_n0 (by omega) ke f_ke (by omega) (by omega) I s.heap.size) (cwV 1 hts (bw_V wB_777 wB_778 wB_779 wB_684 wB_776) rfl rfl rfl (by decide +kernel) ⟨Nat.le_of_ble_eq_true rfl, Nat.le_of_ble_eq_true rfl⟩) (dg_preV sX_209 rfl K ST hP hS hA1 hA) rfl rfl hl.1 rfl (lv_room (Nat.le_of_ble_eq_true rfl)) dX6_readSum_2 ⟨Nat.le_of_ble_eq_true rfl, Nat.le_of_ble_eq_true rfl⟩) (fun x_1 S_2 hw_2 H locs hP hS => ?_)
  obtain ⟨I_2, m_2, w_2_0, w_2_1, -⟩ := hw_2
  have M_2 := dg_sm.tr M_0 m_2 (by decide) (by decide)
  have w_2_0 : 0 ≤ (x_1).toInt ∧ (x_1).toInt ≤ 1 := w_2_0
  obtain ⟨y_3, f_y_3, w_2_1⟩ := w_2_1
  have w_2_1 : (y_3).toInt ≤ (en).toInt := w_2_1
  have b_y_3 : 0 ≤ (y_3).toInt ∧ (y_3).toInt ≤ 1600 := dg_I.intb (lo := 0) (hi := 1600) I_2 sX_209 (by decide +kernel) f_y_3
  refine lv_istore_n (lv' := [(2, .int x_1), (0, .ref (o + 209)), (1, .int 3)]) hx hb dX6_readSum_5 rfl hl (by decide) rfl (fun ls hl => ?_)
  refine lv_aload_n hx hb dX6_readSum_6 rfl (lv_at hl 1 rfl) ?_
  refine dg_calli hS hA1 hA (va_runV (As := []) (rest := []) F (c_rd_sumStep l g D o S_2 en y_3 f_y_3 (by omega) ke ((congrFun (m_2.2 211 _ sX_211 (by decide)).1 _).trans f_ke) (by omega) (by omega) I_2 H.size) (cwV 0 hts (bw_V wB_781 wB_782 wB_783 wB_684 wB_780) rfl rfl rfl (by decide +kernel) ⟨Nat.le_of_ble_eq_true rfl, Nat.le_of_ble_eq_true rfl⟩) (dg_preV sX_209 rfl K ST hP hS hA1 hA) rfl rfl hl.1 rfl (lv_room (Nat.le_of_ble_eq_true rfl)) dX6_readSum_7 ⟨Nat.le_of_ble_eq_true rfl, Nat.le_of_ble_eq_true rfl⟩) (fun x_4 S_5 hw_5 H locs hP hS => ?_)
  rw [hw_5.1] at hP
  obtain ⟨hq_5, w_5_0, -⟩ := hw_5
  have w_5_0 : (-11) ≤ (x_4).toInt ∧ (x_4).toInt ≤ 0 := w_5_0
  refine lv_istore_n (lv' := [(3, .int x_4), (2, .int x_1), (0, .ref (o + 209)), (1, .int 3)]) hx hb dX6_readSum_10 rfl hl (by decide) rfl (fun ls hl => ?_)
  refine lv_iconst (v := 0) hx hb dX6_readSum_11 (by decide +kernel) ?_
  refine lv_istore (lv' := [(4, .int 0), (3, .int x_4), (2, .int x_1), (0, .ref (o + 209)), (1, .int 3)]) hx hb dX6_readSum_12 hl (by decide) rfl (fun ls hl => ?_)
  have L_87 : ∀ (n : Nat) (x_82 : Int32) (x_83 : Int32) (x_84 : Int32) (x_85 : Int32), (0 ≤ (x_82).toInt ∧ (x_82).toInt ≤ 1600) → ((-11) ≤ (x_83).toInt ∧ (x_83).toInt ≤ 0) → (0 ≤ (x_84).toInt ∧ (x_84).toInt ≤ 1) → (0 ≤ (x_85).toInt ∧ (x_85).toInt ≤ 1600) → ((x_85).toInt ≤ (en).toInt) → ((1601 - (x_82).toInt).toNat < n) → ∀ S_86 : dg_S, CX o S_86 → dg_sm shX [(31, 0), (31, 1), (31, 4), (31, 7)] [28] S S_86 → S_86.1 209 4 = .int x_85 → ∀ (H : Heap) (locs : List Loc), va_P D vwCl (dg_w g shX o rfX S_86) H → va_S A s.heap H locs → ∀ ls : Array Slot, lv_has ls 5 [(4, .int x_82), (3, .int x_83), (2, .int x_84), (0, .ref (o + 209)), (1, .int 3)] → W p l e ({ frames := 39, cells := 0, slots := 0, locals := 897 } : Room) s m args below meth c H locs 0 0 (MQ below (va_Qi (fun (r : Int32) S' => CX o S' ∧ dg_sm shX [(31, 0), (31, 1), (31, 4), (31, 7)] [28] S S' ∧ (0 ≤ (r).toInt ∧ (r).toInt ≤ 1) ∧ (∃ y9 : Int32, S'.1 209 4 = .int y9 ∧ ((y9).toInt ≤ (en).toInt)) ∧ True) (dg_B g D shX o rfX) A) args s 0 0 A) (F0 m 14 ls []) := by
    intro n
    induction n with
    | zero =>
      intro x_82 x_83 x_84 x_85 b_x_82 b_x_83 b_x_84 b_x_85 rel_0 hmu S_86 I_86 M_86 ff_86_4_209 H locs hP hS ls hl
      omega
    | succ n ih =>
      intro x_82 x_83 x_84 x_85 b_x_82 b_x_83 b_x_84 b_x_85 rel_0 hmu S_86 I_86 M_86 ff_86_4_209 H locs hP hS ls hl
      refine lv_iload hx hb dX6_readSum_14 (lv_at hl 0 rfl) ?_
      refine lv_sipush (v := 1600) hx hb dX6_readSum_16 (by decide +kernel) ?_
      refine lv_icmp_ge (tgt := 56) hx hb dX6_readSum_19 (by decide) (fun c_88 => ?_) (fun c_88 => ?_)
      · have jc_88 := dk_gec (k := 1600) (by decide +kernel) c_88
        refine lv_iload_n hx hb dX6_readSum_56 rfl (lv_at hl 2 rfl) ?_
        refine W.widen (k := 0) (n := 0) (Nat.le_of_ble_eq_true rfl) (Nat.le_of_ble_eq_true rfl) ?_
        exact dg_iret hx hb hr hlocks (dk_znar (by omega) (by omega)) hP hS ⟨I_86, M_86, (by omega), ⟨x_85, ff_86_4_209, (by omega)⟩, trivial⟩ dX6_readSum_57
      · have jc_88 := dk_ngec (k := 1600) (by decide +kernel) c_88
        refine lv_iload_n hx hb dX6_readSum_22 rfl (lv_at hl 2 rfl) ?_
        refine lv_if_eq (tgt := 56) hx hb dX6_readSum_23 (by decide) (fun c_89 => ?_) (fun c_89 => ?_)
        · have jc_89 := dk_eqc (k := 0) (by decide +kernel) c_89
          refine lv_iload_n hx hb dX6_readSum_56 rfl (lv_at hl 2 rfl) ?_
          refine W.widen (k := 0) (n := 0) (Nat.le_of_ble_eq_true rfl) (Nat.le_of_ble_eq_true rfl) ?_
          exact dg_iret hx hb hr hlocks (dk_znar (by omega) (by omega)) hP hS ⟨I_86, M_86, (by omega), ⟨x_85, ff_86_4_209, (by omega)⟩, trivial⟩ dX6_readSum_57
        · have jc_89 := dk_neqc (k := 0) (by decide +kernel) c_89
          refine lv_iload_n hx hb dX6_readSum_26 rfl (lv_at hl 1 rfl) ?_
          refine lv_if_eq (tgt := 56) hx hb dX6_readSum_27 (by decide) (fun c_90 => ?_) (fun c_90 => ?_)
          · have jc_90 := dk_eqc (k := 0) (by decide +kernel) c_90
            refine lv_iload_n hx hb dX6_readSum_56 rfl (lv_at hl 2 rfl) ?_
            refine W.widen (k := 0) (n := 0) (Nat.le_of_ble_eq_true rfl) (Nat.le_of_ble_eq_true rfl) ?_
            exact dg_iret hx hb hr hlocks (dk_znar (by omega) (by omega)) hP hS ⟨I_86, M_86, (by omega), ⟨x_85, ff_86_4_209, (by omega)⟩, trivial⟩ dX6_readSum_57
          · have jc_90 := dk_neqc (k := 0) (by decide +kernel) c_90
            refine lv_aload_n hx hb dX6_readSum_30 rfl (lv_at hl 3 rfl) ?_
            refine dg_callv hS hA1 hA (va_runV (As := []) (rest := []) F (c_rd_pass l g D o S_86 en x_85 ff_86_4_209 (by omega) ke ((congrFun (M_86.2 211 _ sX_211 (by decide)).1 _).trans f_ke) (by omega) (by omega) I_86 H.size) (cwV 0 hts (bw_V wB_686 wB_687 wB_688 wB_684 wB_685) rfl rfl rfl (by decide +kernel) ⟨Nat.le_of_ble_eq_true rfl, Nat.le_of_ble_eq_true rfl⟩) (dg_preV sX_209 rfl K ST hP hS hA1 hA) rfl rfl hl.1 rfl (lv_room (Nat.le_of_ble_eq_true rfl)) dX6_readSum_31 ⟨Nat.le_of_ble_eq_true rfl, Nat.le_of_ble_eq_true rfl⟩) (fun S_91 hw_91 H locs hP hS => ?_)
            obtain ⟨I_91, m_91, w_91_0, -⟩ := hw_91
            have M_91 := dg_sm.tr M_86 m_91 (by decide) (by decide)
            obtain ⟨y_92, f_y_92, w_91_0⟩ := w_91_0
            have w_91_0 : (y_92).toInt ≤ (en).toInt := w_91_0
            have b_y_92 : 0 ≤ (y_92).toInt ∧ (y_92).toInt ≤ 1600 := dg_I.intb (lo := 0) (hi := 1600) I_91 sX_209 (by decide +kernel) f_y_92
            refine lv_aload_n hx hb dX6_readSum_34 rfl (lv_at hl 3 rfl) ?_
            refine lv_iload_n hx hb dX6_readSum_35 rfl (lv_at hl 4 rfl) ?_
            refine dg_calli hS hA1 hA (va_runV (As := [.int 3]) (rest := []) F (c_rd_readProduct_3 l g D o S_91 en y_92 f_y_92 (by omega) ke ((congrFun ((m_91.2 211 _ sX_211 (by decide)).1.trans (M_86.2 211 _ sX_211 (by decide)).1) _).trans f_ke) (by omega) (by omega) I_91 H.size) (cwV 1 hts (bw_V wB_777 wB_778 wB_779 wB_684 wB_776) rfl rfl rfl (by decide +kernel) ⟨Nat.le_of_ble_eq_true rfl, Nat.le_of_ble_eq_true rfl⟩) (dg_preV sX_209 rfl K ST hP hS hA1 hA) rfl rfl hl.1 rfl (lv_room (Nat.le_of_ble_eq_true rfl)) dX6_readSum_36 ⟨Nat.le_of_ble_eq_true rfl, Nat.le_of_ble_eq_true rfl⟩) (fun x_93 S_94 hw_94 H locs hP hS => ?_)
            obtain ⟨I_94, m_94, w_94_0, w_94_1, -⟩ := hw_94
            have M_94 := dg_sm.tr M_91 m_94 (by decide) (by decide)
            have w_94_0 : 0 ≤ (x_93).toInt ∧ (x_93).toInt ≤ 1 := w_94_0
            obtain ⟨y_95, f_y_95, w_94_1⟩ := w_94_1
            have w_94_1 : (y_95).toInt ≤ (en).toInt := w_94_1
            have b_y_95 : 0 ≤ (y_95).toInt ∧ (y_95).toInt ≤ 1600 := dg_I.intb (lo := 0) (hi := 1600) I_94 sX_209 (by decide +kernel) f_y_95
            refine lv_istore_n (lv' := [(2, .int x_93), (4, .int x_82), (3, .int x_83), (0, .ref (o + 209)), (1, .int 3)]) hx hb dX6_readSum_39 rfl hl (by decide) rfl (fun ls hl => ?_)
            refine lv_aload_n hx hb dX6_readSum_40 rfl (lv_at hl 3 rfl) ?_
            refine lv_iload_n hx hb dX6_readSum_41 rfl (lv_at hl 2 rfl) ?_
            refine dg_callv hS hA1 hA (va_runV (As := [.int x_83]) (rest := []) F (c_rd_put l g D o S_94 x_83 en y_95 f_y_95 (by omega) ke ((congrFun ((m_94.2 211 _ sX_211 (by decide)).1.trans ((m_91.2 211 _ sX_211 (by decide)).1.trans (M_86.2 211 _ sX_211 (by decide)).1)) _).trans f_ke) (by omega) (by omega) I_94 H.size) (cwV 1 hts (bw_V wB_753 wB_754 wB_755 wB_684 wB_752) rfl rfl rfl (by decide +kernel) ⟨Nat.le_of_ble_eq_true rfl, Nat.le_of_ble_eq_true rfl⟩) (dg_preV sX_209 rfl K ST hP hS hA1 hA) rfl rfl hl.1 rfl (lv_room (Nat.le_of_ble_eq_true rfl)) dX6_readSum_42 ⟨Nat.le_of_ble_eq_true rfl, Nat.le_of_ble_eq_true rfl⟩) (fun S_96 hw_96 H locs hP hS => ?_)
            obtain ⟨I_96, m_96, -⟩ := hw_96
            have M_96 := dg_sm.tr M_94 m_96 (by decide) (by decide)
            refine lv_aload_n hx hb dX6_readSum_45 rfl (lv_at hl 3 rfl) ?_
            refine dg_calli hS hA1 hA (va_runV (As := []) (rest := []) F (c_rd_sumStep l g D o S_96 en y_95 ((m_96.1 209 4 _ sX_209 (by decide)).trans f_y_95) (by omega) ke ((congrFun ((m_96.2 211 _ sX_211 (by decide)).1.trans ((m_94.2 211 _ sX_211 (by decide)).1.trans ((m_91.2 211 _ sX_211 (by decide)).1.trans (M_86.2 211 _ sX_211 (by decide)).1))) _).trans f_ke) (by omega) (by omega) I_96 H.size) (cwV 0 hts (bw_V wB_781 wB_782 wB_783 wB_684 wB_780) rfl rfl rfl (by decide +kernel) ⟨Nat.le_of_ble_eq_true rfl, Nat.le_of_ble_eq_true rfl⟩) (dg_preV sX_209 rfl K ST hP hS hA1 hA) rfl rfl hl.1 rfl (lv_room (Nat.le_of_ble_eq_true rfl)) dX6_readSum_46 ⟨Nat.le_of_ble_eq_true rfl, Nat.le_of_ble_eq_true rfl⟩) (fun x_97 S_98 hw_98 H locs hP hS => ?_)
            rw [hw_98.1] at hP
            obtain ⟨hq_98, w_98_0, -⟩ := hw_98
            have w_98_0 : (-11) ≤ (x_97).toInt ∧ (x_97).toInt ≤ 0 := w_98_0
            refine lv_istore_n (lv' := [(3, .int x_97), (2, .int x_93), (4, .int x_82), (0, .ref (o + 209)), (1, .int 3)]) hx hb dX6_readSum_49 rfl hl (by decide) rfl (fun ls hl => ?_)
            obtain ⟨x_99, ex_99⟩ : ∃ z, z = x_82 + 1 := ⟨_, rfl⟩
            have jx_99 : (x_99).toInt = (x_82).toInt + 1 := by rw [ex_99]; exact dk_addT rfl (by decide +kernel) (by omega) (by omega)
            refine lv_iinc (v := x_99) (lv' := [(4, .int x_99), (3, .int x_97), (2, .int x_93), (0, .ref (o + 209)), (1, .int 3)]) hx hb dX6_readSum_50 hl (k := 2) rfl (by rw [ex_99]; rfl) (by decide) rfl (fun ls hl => ?_)
            refine lv_goto (tgt := 14) hx hb dX6_readSum_53 (by decide) ?_
            exact ih x_99 x_97 x_93 y_95 (by omega) (by omega) (by omega) (by omega) (by omega) (by omega) S_96 I_96 M_96 ((m_96.1 209 4 _ sX_209 (by decide)).trans f_y_95) _ _ hP hS _ (lv_sub hl [0, 1, 2, 3, 4] rfl)
  have hz_100 : (0 : Int32).toInt = 0 := by decide +kernel
  have hz_101 : (0 : Int32).toInt = 0 := by decide +kernel
  have hz_102 : (0 : Int32).toInt = 0 := by decide +kernel
  exact L_87 ((1601 - ((0 : Int32)).toInt).toNat + 1) 0 x_4 x_1 y_3 (by decide +kernel) (by omega) (by omega) (by omega) (by omega) (by omega) S_2 I_2 M_2 f_y_3 _ _ hP hS _ (lv_sub hl [0, 1, 2, 3, 4] rfl)
set_option maxHeartbeats 8000000 in
set_option maxRecDepth 100000 in
theorem c_rd_readComparing_3 (l : Launch) (g : Nat → ClassId) (D : va_G) (o : Nat) (S : dg_S) (en : Int32) (n0 : Int32) (f_n0 : S.1 209 4 = .int n0) (b_n0 : 0 ≤ (n0).toInt ∧ (n0).toInt ≤ 1600) (ke : Int32) (f_ke : S.2.1 211 (en : Int32).toNatClampNeg = ke) (b_ke : 0 ≤ (ke).toInt ∧ (ke).toInt ≤ 0) (hne : (n0).toInt ≤ (en).toInt ∧ (en).toInt ≤ 1600 ∧ 0 ≤ (en).toInt) (I : CX o S) (sz : Nat) : Met l yX6_readComparing (bw yX6_readComparing cX6_readComparing 4 (some .boolean)) ({ frames := 40, cells := 0, slots := 0, locals := 921 } : Room) (dk_Pc g D (dg_w g shX o rfX S) sz [.ref (o + 209), .int 3]) (va_Qi (fun (r : Int32) S' => CX o S' ∧ dg_sm shX [(31, 0), (31, 1), (31, 4), (31, 7)] [28] S S' ∧ (0 ≤ (r).toInt ∧ (r).toInt ≤ 1) ∧ (∃ y9 : Int32, S'.1 209 4 = .int y9 ∧ ((y9).toInt ≤ (en).toInt)) ∧ True) (dg_B g D shX o rfX) (dg_A o shX.length sz)) 0 0 (dg_A o shX.length sz) := by
  refine dg_met (cc := cX6_readComparing) (maxL := 4) (ret := (some .boolean)) (by decide) rfl (Nat.le_of_ble_eq_true rfl) ?_
  intro p e s m args below meth c A hAe harg hx hb hr hml hts hown hlocks hin hP K hS hA1 hA ST hsz ls hl
  rw [← hAe]
  have F : CallFix p m c cX6_readComparing 4 s args (bw yX6_readComparing cX6_readComparing 4 (some .boolean)) RX6 := ⟨hx, hb, hml, hown, hts⟩
  have hl : lv_has ls 4 [(0, .ref (o + 209)), (1, .int 3)] := hl
  have M_0 : dg_sm shX [(31, 0), (31, 1), (31, 4), (31, 7)] [28] S S := dg_sm.rf
  refine lv_aload_n hx hb dX6_readComparing_0 rfl (lv_at hl 0 rfl) ?_
  refine lv_iload_n hx hb dX6_readComparing_1 rfl (lv_at hl 1 rfl) ?_
  refine dg_calli hS hA1 hA (va_runV (As := [.int 3]) (rest := []) F (c_rd_readSum_3 l g D o S en n0 f_n0 (by omega) ke f_ke (by omega) (by omega) I s.heap.size) (cwV 1 hts (bw_V wB_785 wB_786 wB_787 wB_684 wB_784) rfl rfl rfl (by decide +kernel) ⟨Nat.le_of_ble_eq_true rfl, Nat.le_of_ble_eq_true rfl⟩) (dg_preV sX_209 rfl K ST hP hS hA1 hA) rfl rfl hl.1 rfl (lv_room (Nat.le_of_ble_eq_true rfl)) dX6_readComparing_2 ⟨Nat.le_of_ble_eq_true rfl, Nat.le_of_ble_eq_true rfl⟩) (fun x_1 S_2 hw_2 H locs hP hS => ?_)
  obtain ⟨I_2, m_2, w_2_0, w_2_1, -⟩ := hw_2
  have M_2 := dg_sm.tr M_0 m_2 (by decide) (by decide)
  have w_2_0 : 0 ≤ (x_1).toInt ∧ (x_1).toInt ≤ 1 := w_2_0
  obtain ⟨y_3, f_y_3, w_2_1⟩ := w_2_1
  have w_2_1 : (y_3).toInt ≤ (en).toInt := w_2_1
  have b_y_3 : 0 ≤ (y_3).toInt ∧ (y_3).toInt ≤ 1600 := dg_I.intb (lo := 0) (hi := 1600) I_2 sX_209 (by decide +kernel) f_y_3
  refine lv_if_ne (tgt := 10) hx hb dX6_readComparing_5 (by decide) (fun c_4 => ?_) (fun c_4 => ?_)
  · have jc_4 := dk_neqc (k := 0) (by decide +kernel) c_4
    refine lv_aload_n hx hb dX6_readComparing_10 rfl (lv_at hl 0 rfl) ?_
    refine dg_calli hS hA1 hA (va_runV (As := []) (rest := []) F (c_rd_comparingStep l g D o S_2 en y_3 f_y_3 (by omega) ke ((congrFun (m_2.2 211 _ sX_211 (by decide)).1 _).trans f_ke) (by omega) (by omega) I_2 H.size) (cwV 0 hts (bw_V wB_789 wB_790 wB_791 wB_684 wB_788) rfl rfl rfl (by decide +kernel) ⟨Nat.le_of_ble_eq_true rfl, Nat.le_of_ble_eq_true rfl⟩) (dg_preV sX_209 rfl K ST hP hS hA1 hA) rfl rfl hl.1 rfl (lv_room (Nat.le_of_ble_eq_true rfl)) dX6_readComparing_11 ⟨Nat.le_of_ble_eq_true rfl, Nat.le_of_ble_eq_true rfl⟩) (fun x_5 S_6 hw_6 H locs hP hS => ?_)
    rw [hw_6.1] at hP
    obtain ⟨hq_6, w_6_0, -⟩ := hw_6
    have w_6_0 : (-19) ≤ (x_5).toInt ∧ (x_5).toInt ≤ 0 := w_6_0
    refine lv_istore_n (lv' := [(2, .int x_5), (0, .ref (o + 209)), (1, .int 3)]) hx hb dX6_readComparing_14 rfl hl (by decide) rfl (fun ls hl => ?_)
    refine lv_iload_n hx hb dX6_readComparing_15 rfl (lv_at hl 0 rfl) ?_
    refine lv_if_ne (tgt := 25) hx hb dX6_readComparing_16 (by decide) (fun c_7 => ?_) (fun c_7 => ?_)
    · have jc_7 := dk_neqc (k := 0) (by decide +kernel) c_7
      refine lv_aload_n hx hb dX6_readComparing_25 rfl (lv_at hl 1 rfl) ?_
      refine dg_callv hS hA1 hA (va_runV (As := []) (rest := []) F (c_rd_pass l g D o S_2 en y_3 f_y_3 (by omega) ke ((congrFun (m_2.2 211 _ sX_211 (by decide)).1 _).trans f_ke) (by omega) (by omega) I_2 H.size) (cwV 0 hts (bw_V wB_686 wB_687 wB_688 wB_684 wB_685) rfl rfl rfl (by decide +kernel) ⟨Nat.le_of_ble_eq_true rfl, Nat.le_of_ble_eq_true rfl⟩) (dg_preV sX_209 rfl K ST hP hS hA1 hA) rfl rfl hl.1 rfl (lv_room (Nat.le_of_ble_eq_true rfl)) dX6_readComparing_26 ⟨Nat.le_of_ble_eq_true rfl, Nat.le_of_ble_eq_true rfl⟩) (fun S_8 hw_8 H locs hP hS => ?_)
      obtain ⟨I_8, m_8, w_8_0, -⟩ := hw_8
      have M_8 := dg_sm.tr M_2 m_8 (by decide) (by decide)
      obtain ⟨y_9, f_y_9, w_8_0⟩ := w_8_0
      have w_8_0 : (y_9).toInt ≤ (en).toInt := w_8_0
      have b_y_9 : 0 ≤ (y_9).toInt ∧ (y_9).toInt ≤ 1600 := dg_I.intb (lo := 0) (hi := 1600) I_8 sX_209 (by decide +kernel) f_y_9
      refine lv_aload_n hx hb dX6_readComparing_29 rfl (lv_at hl 1 rfl) ?_
      refine lv_iload_n hx hb dX6_readComparing_30 rfl (lv_at hl 2 rfl) ?_
      refine dg_calli hS hA1 hA (va_runV (As := [.int 3]) (rest := []) F (c_rd_readSum_3 l g D o S_8 en y_9 f_y_9 (by omega) ke ((congrFun ((m_8.2 211 _ sX_211 (by decide)).1.trans (m_2.2 211 _ sX_211 (by decide)).1) _).trans f_ke) (by omega) (by omega) I_8 H.size) (cwV 1 hts (bw_V wB_785 wB_786 wB_787 wB_684 wB_784) rfl rfl rfl (by decide +kernel) ⟨Nat.le_of_ble_eq_true rfl, Nat.le_of_ble_eq_true rfl⟩) (dg_preV sX_209 rfl K ST hP hS hA1 hA) rfl rfl hl.1 rfl (lv_room (Nat.le_of_ble_eq_true rfl)) dX6_readComparing_31 ⟨Nat.le_of_ble_eq_true rfl, Nat.le_of_ble_eq_true rfl⟩) (fun x_10 S_11 hw_11 H locs hP hS => ?_)
      obtain ⟨I_11, m_11, w_11_0, w_11_1, -⟩ := hw_11
      have M_11 := dg_sm.tr M_8 m_11 (by decide) (by decide)
      have w_11_0 : 0 ≤ (x_10).toInt ∧ (x_10).toInt ≤ 1 := w_11_0
      obtain ⟨y_12, f_y_12, w_11_1⟩ := w_11_1
      have w_11_1 : (y_12).toInt ≤ (en).toInt := w_11_1
      have b_y_12 : 0 ≤ (y_12).toInt ∧ (y_12).toInt ≤ 1600 := dg_I.intb (lo := 0) (hi := 1600) I_11 sX_209 (by decide +kernel) f_y_12
      refine lv_istore_n (lv' := [(3, .int x_10), (2, .int x_5), (0, .ref (o + 209)), (1, .int 3)]) hx hb dX6_readComparing_34 rfl hl (by decide) rfl (fun ls hl => ?_)
      refine lv_aload_n hx hb dX6_readComparing_35 rfl (lv_at hl 2 rfl) ?_
      refine lv_iload_n hx hb dX6_readComparing_36 rfl (lv_at hl 1 rfl) ?_
      refine dg_callv hS hA1 hA (va_runV (As := [.int x_5]) (rest := []) F (c_rd_put l g D o S_11 x_5 en y_12 f_y_12 (by omega) ke ((congrFun ((m_11.2 211 _ sX_211 (by decide)).1.trans ((m_8.2 211 _ sX_211 (by decide)).1.trans (m_2.2 211 _ sX_211 (by decide)).1)) _).trans f_ke) (by omega) (by omega) I_11 H.size) (cwV 1 hts (bw_V wB_753 wB_754 wB_755 wB_684 wB_752) rfl rfl rfl (by decide +kernel) ⟨Nat.le_of_ble_eq_true rfl, Nat.le_of_ble_eq_true rfl⟩) (dg_preV sX_209 rfl K ST hP hS hA1 hA) rfl rfl hl.1 rfl (lv_room (Nat.le_of_ble_eq_true rfl)) dX6_readComparing_37 ⟨Nat.le_of_ble_eq_true rfl, Nat.le_of_ble_eq_true rfl⟩) (fun S_13 hw_13 H locs hP hS => ?_)
      obtain ⟨I_13, m_13, -⟩ := hw_13
      have M_13 := dg_sm.tr M_11 m_13 (by decide) (by decide)
      refine lv_iload_n hx hb dX6_readComparing_40 rfl (lv_at hl 0 rfl) ?_
      refine W.widen (k := 0) (n := 0) (Nat.le_of_ble_eq_true rfl) (Nat.le_of_ble_eq_true rfl) ?_
      exact dg_iret hx hb hr hlocks (dk_znar (by omega) (by omega)) hP hS ⟨I_13, M_13, (by omega), ⟨y_12, ((m_13.1 209 4 _ sX_209 (by decide)).trans f_y_12), (by omega)⟩, trivial⟩ dX6_readComparing_41
    · have jc_7 := dk_eqc (k := 0) (by decide +kernel) c_7
      refine lv_aload_n hx hb dX6_readComparing_19 rfl (lv_at hl 1 rfl) ?_
      refine lv_iconst (v := 1) hx hb dX6_readComparing_20 (by decide +kernel) ?_
      refine dg_calli hS hA1 hA (va_runV (As := [.int 1]) (rest := []) F (c_rd_fail l g D o S_2 1 en y_3 f_y_3 (by omega) ke ((congrFun (m_2.2 211 _ sX_211 (by decide)).1 _).trans f_ke) (by omega) (by omega) I_2 H.size) (cwV 1 hts (bw_V wB_690 wB_691 wB_692 wB_684 wB_689) rfl rfl rfl (by decide +kernel) ⟨Nat.le_of_ble_eq_true rfl, Nat.le_of_ble_eq_true rfl⟩) (dg_preV sX_209 rfl K ST hP hS hA1 hA) rfl rfl hl.1 rfl (lv_room (Nat.le_of_ble_eq_true rfl)) dX6_readComparing_21 ⟨Nat.le_of_ble_eq_true rfl, Nat.le_of_ble_eq_true rfl⟩) (fun x_14 S_15 hw_15 H locs hP hS => ?_)
      obtain ⟨I_15, m_15, w_15_0, -⟩ := hw_15
      have M_15 := dg_sm.tr M_2 m_15 (by decide) (by decide)
      have w_15_0 : 0 ≤ (x_14).toInt ∧ (x_14).toInt ≤ 0 := w_15_0
      refine W.widen (k := 0) (n := 0) (Nat.le_of_ble_eq_true rfl) (Nat.le_of_ble_eq_true rfl) ?_
      exact dg_iret hx hb hr hlocks (dk_znar (by omega) (by omega)) hP hS ⟨I_15, M_15, (by omega), ⟨y_3, ((m_15.1 209 4 _ sX_209 (by decide)).trans f_y_3), (by omega)⟩, trivial⟩ dX6_readComparing_24
  · have jc_4 := dk_eqc (k := 0) (by decide +kernel) c_4
    refine lv_iconst (v := 0) hx hb dX6_readComparing_8 (by decide +kernel) ?_
    have hz_16 : (0 : Int32).toInt = 0 := by decide +kernel
    have hz_17 : (0 : Int32).toInt = 0 := by decide +kernel
    refine W.widen (k := 0) (n := 0) (Nat.le_of_ble_eq_true rfl) (Nat.le_of_ble_eq_true rfl) ?_
    exact dg_iret hx hb hr hlocks (by decide +kernel) hP hS ⟨I_2, M_2, (by decide +kernel), ⟨y_3, f_y_3, (by omega)⟩, trivial⟩ dX6_readComparing_9
set_option maxHeartbeats 8000000 in
set_option maxRecDepth 100000 in
theorem c_rd_readFact_3 (l : Launch) (g : Nat → ClassId) (D : va_G) (o : Nat) (S : dg_S) (en : Int32) (n0 : Int32) (f_n0 : S.1 209 4 = .int n0) (b_n0 : 0 ≤ (n0).toInt ∧ (n0).toInt ≤ 1600) (ke : Int32) (f_ke : S.2.1 211 (en : Int32).toNatClampNeg = ke) (b_ke : 0 ≤ (ke).toInt ∧ (ke).toInt ≤ 0) (hne : (n0).toInt ≤ (en).toInt ∧ (en).toInt ≤ 1600 ∧ 0 ≤ (en).toInt) (I : CX o S) (sz : Nat) : Met l yX6_readFact (bw yX6_readFact cX6_readFact 3 (some .boolean)) ({ frames := 41, cells := 0, slots := 0, locals := 944 } : Room) (dk_Pc g D (dg_w g shX o rfX S) sz [.ref (o + 209), .int 3]) (va_Qi (fun (r : Int32) S' => CX o S' ∧ dg_sm shX [(31, 0), (31, 1), (31, 4), (31, 7)] [28] S S' ∧ (0 ≤ (r).toInt ∧ (r).toInt ≤ 1) ∧ (∃ y9 : Int32, S'.1 209 4 = .int y9 ∧ ((y9).toInt ≤ (en).toInt)) ∧ True) (dg_B g D shX o rfX) (dg_A o shX.length sz)) 0 0 (dg_A o shX.length sz) := by
  refine dg_met (cc := cX6_readFact) (maxL := 3) (ret := (some .boolean)) (by decide) rfl (Nat.le_of_ble_eq_true rfl) ?_
  intro p e s m args below meth c A hAe harg hx hb hr hml hts hown hlocks hin hP K hS hA1 hA ST hsz ls hl
  rw [← hAe]
  have F : CallFix p m c cX6_readFact 3 s args (bw yX6_readFact cX6_readFact 3 (some .boolean)) RX6 := ⟨hx, hb, hml, hown, hts⟩
  have hl : lv_has ls 3 [(0, .ref (o + 209)), (1, .int 3)] := hl
  have M_0 : dg_sm shX [(31, 0), (31, 1), (31, 4), (31, 7)] [28] S S := dg_sm.rf
  refine lv_aload_n hx hb dX6_readFact_0 rfl (lv_at hl 0 rfl) ?_
  refine lv_bipush (v := 23) hx hb dX6_readFact_1 (by decide +kernel) ?_
  refine dg_calli hS hA1 hA (va_runV (As := [.int 23]) (rest := []) F (c_rd_isOwn l g D o S 23 en n0 f_n0 (by omega) ke f_ke (by omega) (by omega) I s.heap.size) (cwV 1 hts (bw_V wB_681 wB_682 wB_683 wB_684 wB_680) rfl rfl rfl (by decide +kernel) ⟨Nat.le_of_ble_eq_true rfl, Nat.le_of_ble_eq_true rfl⟩) (dg_preV sX_209 rfl K ST hP hS hA1 hA) rfl rfl hl.1 rfl (lv_room (Nat.le_of_ble_eq_true rfl)) dX6_readFact_3 ⟨Nat.le_of_ble_eq_true rfl, Nat.le_of_ble_eq_true rfl⟩) (fun x_1 S_2 hw_2 H locs hP hS => ?_)
  rw [hw_2.1] at hP
  obtain ⟨hq_2, w_2_0, -⟩ := hw_2
  have w_2_0 : 0 ≤ (x_1).toInt ∧ (x_1).toInt ≤ 1 := w_2_0
  refine lv_if_eq (tgt := 41) hx hb dX6_readFact_6 (by decide) (fun c_3 => ?_) (fun c_3 => ?_)
  · have jc_3 := dk_eqc (k := 0) (by decide +kernel) c_3
    refine lv_aload_n hx hb dX6_readFact_41 rfl (lv_at hl 0 rfl) ?_
    refine lv_bipush (v := 91) hx hb dX6_readFact_42 (by decide +kernel) ?_
    refine dg_calli hS hA1 hA (va_runV (As := [.int 91]) (rest := []) F (c_rd_isSign l g D o S 91 en n0 f_n0 (by omega) ke f_ke (by omega) (by omega) I H.size) (cwV 1 hts (bw_V wB_694 wB_695 wB_696 wB_684 wB_693) rfl rfl rfl (by decide +kernel) ⟨Nat.le_of_ble_eq_true rfl, Nat.le_of_ble_eq_true rfl⟩) (dg_preV sX_209 rfl K ST hP hS hA1 hA) rfl rfl hl.1 rfl (lv_room (Nat.le_of_ble_eq_true rfl)) dX6_readFact_44 ⟨Nat.le_of_ble_eq_true rfl, Nat.le_of_ble_eq_true rfl⟩) (fun x_4 S_5 hw_5 H locs hP hS => ?_)
    rw [hw_5.1] at hP
    obtain ⟨hq_5, w_5_0, -⟩ := hw_5
    have w_5_0 : 0 ≤ (x_4).toInt ∧ (x_4).toInt ≤ 1 := w_5_0
    refine lv_if_eq (tgt := 83) hx hb dX6_readFact_47 (by decide) (fun c_6 => ?_) (fun c_6 => ?_)
    · have jc_6 := dk_eqc (k := 0) (by decide +kernel) c_6
      refine lv_aload_n hx hb dX6_readFact_83 rfl (lv_at hl 0 rfl) ?_
      refine lv_bipush (v := 24) hx hb dX6_readFact_84 (by decide +kernel) ?_
      refine dg_calli hS hA1 hA (va_runV (As := [.int 24]) (rest := []) F (c_rd_isOwn l g D o S 24 en n0 f_n0 (by omega) ke f_ke (by omega) (by omega) I H.size) (cwV 1 hts (bw_V wB_681 wB_682 wB_683 wB_684 wB_680) rfl rfl rfl (by decide +kernel) ⟨Nat.le_of_ble_eq_true rfl, Nat.le_of_ble_eq_true rfl⟩) (dg_preV sX_209 rfl K ST hP hS hA1 hA) rfl rfl hl.1 rfl (lv_room (Nat.le_of_ble_eq_true rfl)) dX6_readFact_86 ⟨Nat.le_of_ble_eq_true rfl, Nat.le_of_ble_eq_true rfl⟩) (fun x_7 S_8 hw_8 H locs hP hS => ?_)
      rw [hw_8.1] at hP
      obtain ⟨hq_8, w_8_0, -⟩ := hw_8
      have w_8_0 : 0 ≤ (x_7).toInt ∧ (x_7).toInt ≤ 1 := w_8_0
      refine lv_if_eq (tgt := 104) hx hb dX6_readFact_89 (by decide) (fun c_9 => ?_) (fun c_9 => ?_)
      · have jc_9 := dk_eqc (k := 0) (by decide +kernel) c_9
        refine lv_aload_n hx hb dX6_readFact_104 rfl (lv_at hl 0 rfl) ?_
        refine lv_iload_n hx hb dX6_readFact_105 rfl (lv_at hl 1 rfl) ?_
        refine dg_calli hS hA1 hA (va_runV (As := [.int 3]) (rest := []) F (c_rd_readComparing_3 l g D o S en n0 f_n0 (by omega) ke f_ke (by omega) (by omega) I H.size) (cwV 1 hts (bw_V wB_793 wB_794 wB_795 wB_684 wB_792) rfl rfl rfl (by decide +kernel) ⟨Nat.le_of_ble_eq_true rfl, Nat.le_of_ble_eq_true rfl⟩) (dg_preV sX_209 rfl K ST hP hS hA1 hA) rfl rfl hl.1 rfl (lv_room (Nat.le_of_ble_eq_true rfl)) dX6_readFact_106 ⟨Nat.le_of_ble_eq_true rfl, Nat.le_of_ble_eq_true rfl⟩) (fun x_10 S_11 hw_11 H locs hP hS => ?_)
        obtain ⟨I_11, m_11, w_11_0, w_11_1, -⟩ := hw_11
        have M_11 := dg_sm.tr M_0 m_11 (by decide) (by decide)
        have w_11_0 : 0 ≤ (x_10).toInt ∧ (x_10).toInt ≤ 1 := w_11_0
        obtain ⟨y_12, f_y_12, w_11_1⟩ := w_11_1
        have w_11_1 : (y_12).toInt ≤ (en).toInt := w_11_1
        have b_y_12 : 0 ≤ (y_12).toInt ∧ (y_12).toInt ≤ 1600 := dg_I.intb (lo := 0) (hi := 1600) I_11 sX_209 (by decide +kernel) f_y_12
        refine W.widen (k := 0) (n := 0) (Nat.le_of_ble_eq_true rfl) (Nat.le_of_ble_eq_true rfl) ?_
        exact dg_iret hx hb hr hlocks (dk_znar (by omega) (by omega)) hP hS ⟨I_11, M_11, (by omega), ⟨y_12, f_y_12, (by omega)⟩, trivial⟩ dX6_readFact_109
      · have jc_9 := dk_neqc (k := 0) (by decide +kernel) c_9
        refine lv_aload_n hx hb dX6_readFact_92 rfl (lv_at hl 0 rfl) ?_
        refine dg_callv hS hA1 hA (va_runV (As := []) (rest := []) F (c_rd_pass l g D o S en n0 f_n0 (by omega) ke f_ke (by omega) (by omega) I H.size) (cwV 0 hts (bw_V wB_686 wB_687 wB_688 wB_684 wB_685) rfl rfl rfl (by decide +kernel) ⟨Nat.le_of_ble_eq_true rfl, Nat.le_of_ble_eq_true rfl⟩) (dg_preV sX_209 rfl K ST hP hS hA1 hA) rfl rfl hl.1 rfl (lv_room (Nat.le_of_ble_eq_true rfl)) dX6_readFact_93 ⟨Nat.le_of_ble_eq_true rfl, Nat.le_of_ble_eq_true rfl⟩) (fun S_13 hw_13 H locs hP hS => ?_)
        obtain ⟨I_13, m_13, w_13_0, -⟩ := hw_13
        have M_13 := dg_sm.tr M_0 m_13 (by decide) (by decide)
        obtain ⟨y_14, f_y_14, w_13_0⟩ := w_13_0
        have w_13_0 : (y_14).toInt ≤ (en).toInt := w_13_0
        have b_y_14 : 0 ≤ (y_14).toInt ∧ (y_14).toInt ≤ 1600 := dg_I.intb (lo := 0) (hi := 1600) I_13 sX_209 (by decide +kernel) f_y_14
        refine lv_aload_n hx hb dX6_readFact_96 rfl (lv_at hl 0 rfl) ?_
        refine lv_bipush (v := (-7)) hx hb dX6_readFact_97 (by decide +kernel) ?_
        refine dg_callv hS hA1 hA (va_runV (As := [.int (-7)]) (rest := []) F (c_rd_put l g D o S_13 (-7) en y_14 f_y_14 (by omega) ke ((congrFun (m_13.2 211 _ sX_211 (by decide)).1 _).trans f_ke) (by omega) (by omega) I_13 H.size) (cwV 1 hts (bw_V wB_753 wB_754 wB_755 wB_684 wB_752) rfl rfl rfl (by decide +kernel) ⟨Nat.le_of_ble_eq_true rfl, Nat.le_of_ble_eq_true rfl⟩) (dg_preV sX_209 rfl K ST hP hS hA1 hA) rfl rfl hl.1 rfl (lv_room (Nat.le_of_ble_eq_true rfl)) dX6_readFact_99 ⟨Nat.le_of_ble_eq_true rfl, Nat.le_of_ble_eq_true rfl⟩) (fun S_15 hw_15 H locs hP hS => ?_)
        obtain ⟨I_15, m_15, -⟩ := hw_15
        have M_15 := dg_sm.tr M_13 m_15 (by decide) (by decide)
        refine lv_iconst (v := 1) hx hb dX6_readFact_102 (by decide +kernel) ?_
        have hz_16 : (1 : Int32).toInt = 1 := by decide +kernel
        have hz_17 : (1 : Int32).toInt = 1 := by decide +kernel
        refine W.widen (k := 0) (n := 0) (Nat.le_of_ble_eq_true rfl) (Nat.le_of_ble_eq_true rfl) ?_
        exact dg_iret hx hb hr hlocks (by decide +kernel) hP hS ⟨I_15, M_15, (by decide +kernel), ⟨y_14, ((m_15.1 209 4 _ sX_209 (by decide)).trans f_y_14), (by omega)⟩, trivial⟩ dX6_readFact_103
    · have jc_6 := dk_neqc (k := 0) (by decide +kernel) c_6
      refine lv_aload_n hx hb dX6_readFact_50 rfl (lv_at hl 0 rfl) ?_
      refine lv_iload_n hx hb dX6_readFact_51 rfl (lv_at hl 1 rfl) ?_
      refine dg_calli hS hA1 hA (va_runV (As := [.int 3]) (rest := []) F (c_rd_passOpening_3 l g D o S en n0 f_n0 (by omega) ke f_ke (by omega) (by omega) I H.size) (cwV 1 hts (bw_V wB_745 wB_746 wB_747 wB_684 wB_744) rfl rfl rfl (by decide +kernel) ⟨Nat.le_of_ble_eq_true rfl, Nat.le_of_ble_eq_true rfl⟩) (dg_preV sX_209 rfl K ST hP hS hA1 hA) rfl rfl hl.1 rfl (lv_room (Nat.le_of_ble_eq_true rfl)) dX6_readFact_52 ⟨Nat.le_of_ble_eq_true rfl, Nat.le_of_ble_eq_true rfl⟩) (fun x_18 S_19 hw_19 H locs hP hS => ?_)
      obtain ⟨I_19, m_19, w_19_0, w_19_1, -⟩ := hw_19
      have M_19 := dg_sm.tr M_0 m_19 (by decide) (by decide)
      have w_19_0 : 1 ≤ (x_18).toInt ∧ (x_18).toInt ≤ 1 := w_19_0
      obtain ⟨y_20, f_y_20, w_19_1⟩ := w_19_1
      have w_19_1 : (y_20).toInt ≤ (en).toInt := w_19_1
      have b_y_20 : 0 ≤ (y_20).toInt ∧ (y_20).toInt ≤ 1600 := dg_I.intb (lo := 0) (hi := 1600) I_19 sX_209 (by decide +kernel) f_y_20
      refine lv_if_eq (tgt := 81) hx hb dX6_readFact_55 (by decide) (fun c => absurd c (fun z => absurd (dk_eqc (k := 0) (by decide +kernel) z) (by omega))) (fun _ => ?_)
      refine lv_aload_n hx hb dX6_readFact_58 rfl (lv_at hl 0 rfl) ?_
      refine lv_iload_n hx hb dX6_readFact_59 rfl (lv_at hl 1 rfl) ?_
      refine lv_iconst (v := 1) hx hb dX6_readFact_60 (by decide +kernel) ?_
      refine lv_iadd hx hb dX6_readFact_61 ?_
      refine dk_top (y := 4) (by decide +kernel) ?_
      refine dg_calli hS hA1 hA (va_runV (As := [.int 4]) (rest := []) F (c_rd_readTest_4 l g D o S_19 en y_20 f_y_20 (by omega) ke ((congrFun (m_19.2 211 _ sX_211 (by decide)).1 _).trans f_ke) (by omega) (by omega) I_19 H.size) (cwV 1 hts (bw_V wB_805 wB_806 wB_807 wB_684 wB_804) rfl rfl rfl (by decide +kernel) ⟨Nat.le_of_ble_eq_true rfl, Nat.le_of_ble_eq_true rfl⟩) (dg_preV sX_209 rfl K ST hP hS hA1 hA) rfl rfl hl.1 rfl (lv_room (Nat.le_of_ble_eq_true rfl)) dX6_readFact_62 ⟨Nat.le_of_ble_eq_true rfl, Nat.le_of_ble_eq_true rfl⟩) (fun x_21 S_22 hw_22 H locs hP hS => ?_)
      obtain ⟨I_22, m_22, w_22_0, w_22_1, -⟩ := hw_22
      have M_22 := dg_sm.tr M_19 m_22 (by decide) (by decide)
      have w_22_0 : 0 ≤ (x_21).toInt ∧ (x_21).toInt ≤ 1 := w_22_0
      obtain ⟨y_23, f_y_23, w_22_1⟩ := w_22_1
      have w_22_1 : (y_23).toInt ≤ (en).toInt := w_22_1
      have b_y_23 : 0 ≤ (y_23).toInt ∧ (y_23).toInt ≤ 1600 := dg_I.intb (lo := 0) (hi := 1600) I_22 sX_209 (by decide +kernel) f_y_23
      refine lv_if_eq (tgt := 81) hx hb dX6_readFact_65 (by decide) (fun c_24 => ?_) (fun c_24 => ?_)
      · have jc_24 := dk_eqc (k := 0) (by decide +kernel) c_24
        refine lv_iconst (v := 0) hx hb dX6_readFact_81 (by decide +kernel) ?_
        have hz_25 : (0 : Int32).toInt = 0 := by decide +kernel
        have hz_26 : (0 : Int32).toInt = 0 := by decide +kernel
        refine W.widen (k := 0) (n := 0) (Nat.le_of_ble_eq_true rfl) (Nat.le_of_ble_eq_true rfl) ?_
        exact dg_iret hx hb hr hlocks (by decide +kernel) hP hS ⟨I_22, M_22, (by decide +kernel), ⟨y_23, f_y_23, (by omega)⟩, trivial⟩ dX6_readFact_82
      · have jc_24 := dk_neqc (k := 0) (by decide +kernel) c_24
        refine lv_aload_n hx hb dX6_readFact_68 rfl (lv_at hl 0 rfl) ?_
        refine lv_bipush (v := 93) hx hb dX6_readFact_69 (by decide +kernel) ?_
        refine dg_calli hS hA1 hA (va_runV (As := [.int 93]) (rest := []) F (c_rd_takeSign l g D o S_22 93 en y_23 f_y_23 (by omega) ke ((congrFun ((m_22.2 211 _ sX_211 (by decide)).1.trans (m_19.2 211 _ sX_211 (by decide)).1) _).trans f_ke) (by omega) (by omega) I_22 H.size) (cwV 1 hts (bw_V wB_809 wB_810 wB_811 wB_684 wB_808) rfl rfl rfl (by decide +kernel) ⟨Nat.le_of_ble_eq_true rfl, Nat.le_of_ble_eq_true rfl⟩) (dg_preV sX_209 rfl K ST hP hS hA1 hA) rfl rfl hl.1 rfl (lv_room (Nat.le_of_ble_eq_true rfl)) dX6_readFact_71 ⟨Nat.le_of_ble_eq_true rfl, Nat.le_of_ble_eq_true rfl⟩) (fun x_27 S_28 hw_28 H locs hP hS => ?_)
        obtain ⟨I_28, m_28, w_28_0, w_28_1, -⟩ := hw_28
        have M_28 := dg_sm.tr M_22 m_28 (by decide) (by decide)
        have hz_29 : (93 : Int32).toInt = 93 := by decide +kernel
        have w_28_0 : 0 ≤ (x_27).toInt ∧ (x_27).toInt ≤ 1 := w_28_0
        obtain ⟨y_30, f_y_30, w_28_1⟩ := w_28_1
        have w_28_1 : (y_30).toInt ≤ (en).toInt := w_28_1
        have b_y_30 : 0 ≤ (y_30).toInt ∧ (y_30).toInt ≤ 1600 := dg_I.intb (lo := 0) (hi := 1600) I_28 sX_209 (by decide +kernel) f_y_30
        refine lv_if_eq (tgt := 81) hx hb dX6_readFact_74 (by decide) (fun c_31 => ?_) (fun c_31 => ?_)
        · have jc_31 := dk_eqc (k := 0) (by decide +kernel) c_31
          refine lv_iconst (v := 0) hx hb dX6_readFact_81 (by decide +kernel) ?_
          have hz_32 : (0 : Int32).toInt = 0 := by decide +kernel
          have hz_33 : (0 : Int32).toInt = 0 := by decide +kernel
          refine W.widen (k := 0) (n := 0) (Nat.le_of_ble_eq_true rfl) (Nat.le_of_ble_eq_true rfl) ?_
          exact dg_iret hx hb hr hlocks (by decide +kernel) hP hS ⟨I_28, M_28, (by decide +kernel), ⟨y_30, f_y_30, (by omega)⟩, trivial⟩ dX6_readFact_82
        · have jc_31 := dk_neqc (k := 0) (by decide +kernel) c_31
          refine lv_iconst (v := 1) hx hb dX6_readFact_77 (by decide +kernel) ?_
          refine lv_goto (tgt := 82) hx hb dX6_readFact_78 (by decide) ?_
          have hz_34 : (1 : Int32).toInt = 1 := by decide +kernel
          have hz_35 : (1 : Int32).toInt = 1 := by decide +kernel
          refine W.widen (k := 0) (n := 0) (Nat.le_of_ble_eq_true rfl) (Nat.le_of_ble_eq_true rfl) ?_
          exact dg_iret hx hb hr hlocks (by decide +kernel) hP hS ⟨I_28, M_28, (by decide +kernel), ⟨y_30, f_y_30, (by omega)⟩, trivial⟩ dX6_readFact_82
  · have jc_3 := dk_neqc (k := 0) (by decide +kernel) c_3
    refine lv_aload_n hx hb dX6_readFact_9 rfl (lv_at hl 0 rfl) ?_
    refine lv_iload_n hx hb dX6_readFact_10 rfl (lv_at hl 1 rfl) ?_
    refine dg_calli hS hA1 hA (va_runV (As := [.int 3]) (rest := []) F (c_rd_passOpening_3 l g D o S en n0 f_n0 (by omega) ke f_ke (by omega) (by omega) I H.size) (cwV 1 hts (bw_V wB_745 wB_746 wB_747 wB_684 wB_744) rfl rfl rfl (by decide +kernel) ⟨Nat.le_of_ble_eq_true rfl, Nat.le_of_ble_eq_true rfl⟩) (dg_preV sX_209 rfl K ST hP hS hA1 hA) rfl rfl hl.1 rfl (lv_room (Nat.le_of_ble_eq_true rfl)) dX6_readFact_11 ⟨Nat.le_of_ble_eq_true rfl, Nat.le_of_ble_eq_true rfl⟩) (fun x_36 S_37 hw_37 H locs hP hS => ?_)
    obtain ⟨I_37, m_37, w_37_0, w_37_1, -⟩ := hw_37
    have M_37 := dg_sm.tr M_0 m_37 (by decide) (by decide)
    have w_37_0 : 1 ≤ (x_36).toInt ∧ (x_36).toInt ≤ 1 := w_37_0
    obtain ⟨y_38, f_y_38, w_37_1⟩ := w_37_1
    have w_37_1 : (y_38).toInt ≤ (en).toInt := w_37_1
    have b_y_38 : 0 ≤ (y_38).toInt ∧ (y_38).toInt ≤ 1600 := dg_I.intb (lo := 0) (hi := 1600) I_37 sX_209 (by decide +kernel) f_y_38
    refine lv_if_eq (tgt := 31) hx hb dX6_readFact_14 (by decide) (fun c => absurd c (fun z => absurd (dk_eqc (k := 0) (by decide +kernel) z) (by omega))) (fun _ => ?_)
    refine lv_aload_n hx hb dX6_readFact_17 rfl (lv_at hl 0 rfl) ?_
    refine lv_iload_n hx hb dX6_readFact_18 rfl (lv_at hl 1 rfl) ?_
    refine lv_iconst (v := 1) hx hb dX6_readFact_19 (by decide +kernel) ?_
    refine lv_iadd hx hb dX6_readFact_20 ?_
    refine dk_top (y := 4) (by decide +kernel) ?_
    refine dg_calli hS hA1 hA (va_runV (As := [.int 4]) (rest := []) F (c_rd_readFact_4 l g D o S_37 en y_38 f_y_38 (by omega) ke ((congrFun (m_37.2 211 _ sX_211 (by decide)).1 _).trans f_ke) (by omega) (by omega) I_37 H.size) (cwV 1 hts (bw_V wB_797 wB_798 wB_799 wB_684 wB_796) rfl rfl rfl (by decide +kernel) ⟨Nat.le_of_ble_eq_true rfl, Nat.le_of_ble_eq_true rfl⟩) (dg_preV sX_209 rfl K ST hP hS hA1 hA) rfl rfl hl.1 rfl (lv_room (Nat.le_of_ble_eq_true rfl)) dX6_readFact_21 ⟨Nat.le_of_ble_eq_true rfl, Nat.le_of_ble_eq_true rfl⟩) (fun x_39 S_40 hw_40 H locs hP hS => ?_)
    obtain ⟨I_40, m_40, w_40_0, w_40_1, -⟩ := hw_40
    have M_40 := dg_sm.tr M_37 m_40 (by decide) (by decide)
    have w_40_0 : 0 ≤ (x_39).toInt ∧ (x_39).toInt ≤ 1 := w_40_0
    obtain ⟨y_41, f_y_41, w_40_1⟩ := w_40_1
    have w_40_1 : (y_41).toInt ≤ (en).toInt := w_40_1
    have b_y_41 : 0 ≤ (y_41).toInt ∧ (y_41).toInt ≤ 1600 := dg_I.intb (lo := 0) (hi := 1600) I_40 sX_209 (by decide +kernel) f_y_41
    refine lv_if_eq (tgt := 31) hx hb dX6_readFact_24 (by decide) (fun c_42 => ?_) (fun c_42 => ?_)
    · have jc_42 := dk_eqc (k := 0) (by decide +kernel) c_42
      refine lv_iconst (v := 0) hx hb dX6_readFact_31 (by decide +kernel) ?_
      refine lv_istore_n (lv' := [(2, .int 0), (0, .ref (o + 209)), (1, .int 3)]) hx hb dX6_readFact_32 rfl hl (by decide) rfl (fun ls hl => ?_)
      refine lv_aload_n hx hb dX6_readFact_33 rfl (lv_at hl 1 rfl) ?_
      refine lv_bipush (v := (-8)) hx hb dX6_readFact_34 (by decide +kernel) ?_
      refine dg_callv hS hA1 hA (va_runV (As := [.int (-8)]) (rest := []) F (c_rd_put l g D o S_40 (-8) en y_41 f_y_41 (by omega) ke ((congrFun ((m_40.2 211 _ sX_211 (by decide)).1.trans (m_37.2 211 _ sX_211 (by decide)).1) _).trans f_ke) (by omega) (by omega) I_40 H.size) (cwV 1 hts (bw_V wB_753 wB_754 wB_755 wB_684 wB_752) rfl rfl rfl (by decide +kernel) ⟨Nat.le_of_ble_eq_true rfl, Nat.le_of_ble_eq_true rfl⟩) (dg_preV sX_209 rfl K ST hP hS hA1 hA) rfl rfl hl.1 rfl (lv_room (Nat.le_of_ble_eq_true rfl)) dX6_readFact_36 ⟨Nat.le_of_ble_eq_true rfl, Nat.le_of_ble_eq_true rfl⟩) (fun S_43 hw_43 H locs hP hS => ?_)
      obtain ⟨I_43, m_43, -⟩ := hw_43
      have M_43 := dg_sm.tr M_40 m_43 (by decide) (by decide)
      refine lv_iload_n hx hb dX6_readFact_39 rfl (lv_at hl 0 rfl) ?_
      have hz_44 : (0 : Int32).toInt = 0 := by decide +kernel
      have hz_45 : (0 : Int32).toInt = 0 := by decide +kernel
      refine W.widen (k := 0) (n := 0) (Nat.le_of_ble_eq_true rfl) (Nat.le_of_ble_eq_true rfl) ?_
      exact dg_iret hx hb hr hlocks (by decide +kernel) hP hS ⟨I_43, M_43, (by decide +kernel), ⟨y_41, ((m_43.1 209 4 _ sX_209 (by decide)).trans f_y_41), (by omega)⟩, trivial⟩ dX6_readFact_40
    · have jc_42 := dk_neqc (k := 0) (by decide +kernel) c_42
      refine lv_iconst (v := 1) hx hb dX6_readFact_27 (by decide +kernel) ?_
      refine lv_goto (tgt := 32) hx hb dX6_readFact_28 (by decide) ?_
      refine lv_istore_n (lv' := [(2, .int 1), (0, .ref (o + 209)), (1, .int 3)]) hx hb dX6_readFact_32 rfl hl (by decide) rfl (fun ls hl => ?_)
      refine lv_aload_n hx hb dX6_readFact_33 rfl (lv_at hl 1 rfl) ?_
      refine lv_bipush (v := (-8)) hx hb dX6_readFact_34 (by decide +kernel) ?_
      refine dg_callv hS hA1 hA (va_runV (As := [.int (-8)]) (rest := []) F (c_rd_put l g D o S_40 (-8) en y_41 f_y_41 (by omega) ke ((congrFun ((m_40.2 211 _ sX_211 (by decide)).1.trans (m_37.2 211 _ sX_211 (by decide)).1) _).trans f_ke) (by omega) (by omega) I_40 H.size) (cwV 1 hts (bw_V wB_753 wB_754 wB_755 wB_684 wB_752) rfl rfl rfl (by decide +kernel) ⟨Nat.le_of_ble_eq_true rfl, Nat.le_of_ble_eq_true rfl⟩) (dg_preV sX_209 rfl K ST hP hS hA1 hA) rfl rfl hl.1 rfl (lv_room (Nat.le_of_ble_eq_true rfl)) dX6_readFact_36 ⟨Nat.le_of_ble_eq_true rfl, Nat.le_of_ble_eq_true rfl⟩) (fun S_46 hw_46 H locs hP hS => ?_)
      obtain ⟨I_46, m_46, -⟩ := hw_46
      have M_46 := dg_sm.tr M_40 m_46 (by decide) (by decide)
      refine lv_iload_n hx hb dX6_readFact_39 rfl (lv_at hl 0 rfl) ?_
      have hz_47 : (1 : Int32).toInt = 1 := by decide +kernel
      have hz_48 : (1 : Int32).toInt = 1 := by decide +kernel
      refine W.widen (k := 0) (n := 0) (Nat.le_of_ble_eq_true rfl) (Nat.le_of_ble_eq_true rfl) ?_
      exact dg_iret hx hb hr hlocks (by decide +kernel) hP hS ⟨I_46, M_46, (by decide +kernel), ⟨y_41, ((m_46.1 209 4 _ sX_209 (by decide)).trans f_y_41), (by omega)⟩, trivial⟩ dX6_readFact_40
set_option maxHeartbeats 8000000 in
set_option maxRecDepth 100000 in
theorem c_rd_readBoth_3 (l : Launch) (g : Nat → ClassId) (D : va_G) (o : Nat) (S : dg_S) (en : Int32) (n0 : Int32) (f_n0 : S.1 209 4 = .int n0) (b_n0 : 0 ≤ (n0).toInt ∧ (n0).toInt ≤ 1600) (ke : Int32) (f_ke : S.2.1 211 (en : Int32).toNatClampNeg = ke) (b_ke : 0 ≤ (ke).toInt ∧ (ke).toInt ≤ 0) (hne : (n0).toInt ≤ (en).toInt ∧ (en).toInt ≤ 1600 ∧ 0 ≤ (en).toInt) (I : CX o S) (sz : Nat) : Met l yX6_readBoth (bw yX6_readBoth cX6_readBoth 4 (some .boolean)) ({ frames := 42, cells := 0, slots := 0, locals := 966 } : Room) (dk_Pc g D (dg_w g shX o rfX S) sz [.ref (o + 209), .int 3]) (va_Qi (fun (r : Int32) S' => CX o S' ∧ dg_sm shX [(31, 0), (31, 1), (31, 4), (31, 7)] [28] S S' ∧ (0 ≤ (r).toInt ∧ (r).toInt ≤ 1) ∧ (∃ y9 : Int32, S'.1 209 4 = .int y9 ∧ ((y9).toInt ≤ (en).toInt)) ∧ True) (dg_B g D shX o rfX) (dg_A o shX.length sz)) 0 0 (dg_A o shX.length sz) := by
  refine dg_met (cc := cX6_readBoth) (maxL := 4) (ret := (some .boolean)) (by decide) rfl (Nat.le_of_ble_eq_true rfl) ?_
  intro p e s m args below meth c A hAe harg hx hb hr hml hts hown hlocks hin hP K hS hA1 hA ST hsz ls hl
  rw [← hAe]
  have F : CallFix p m c cX6_readBoth 4 s args (bw yX6_readBoth cX6_readBoth 4 (some .boolean)) RX6 := ⟨hx, hb, hml, hown, hts⟩
  have hl : lv_has ls 4 [(0, .ref (o + 209)), (1, .int 3)] := hl
  have M_0 : dg_sm shX [(31, 0), (31, 1), (31, 4), (31, 7)] [28] S S := dg_sm.rf
  refine lv_aload_n hx hb dX6_readBoth_0 rfl (lv_at hl 0 rfl) ?_
  refine lv_iload_n hx hb dX6_readBoth_1 rfl (lv_at hl 1 rfl) ?_
  refine dg_calli hS hA1 hA (va_runV (As := [.int 3]) (rest := []) F (c_rd_readFact_3 l g D o S en n0 f_n0 (by omega) ke f_ke (by omega) (by omega) I s.heap.size) (cwV 1 hts (bw_V wB_797 wB_798 wB_799 wB_684 wB_796) rfl rfl rfl (by decide +kernel) ⟨Nat.le_of_ble_eq_true rfl, Nat.le_of_ble_eq_true rfl⟩) (dg_preV sX_209 rfl K ST hP hS hA1 hA) rfl rfl hl.1 rfl (lv_room (Nat.le_of_ble_eq_true rfl)) dX6_readBoth_2 ⟨Nat.le_of_ble_eq_true rfl, Nat.le_of_ble_eq_true rfl⟩) (fun x_1 S_2 hw_2 H locs hP hS => ?_)
  obtain ⟨I_2, m_2, w_2_0, w_2_1, -⟩ := hw_2
  have M_2 := dg_sm.tr M_0 m_2 (by decide) (by decide)
  have w_2_0 : 0 ≤ (x_1).toInt ∧ (x_1).toInt ≤ 1 := w_2_0
  obtain ⟨y_3, f_y_3, w_2_1⟩ := w_2_1
  have w_2_1 : (y_3).toInt ≤ (en).toInt := w_2_1
  have b_y_3 : 0 ≤ (y_3).toInt ∧ (y_3).toInt ≤ 1600 := dg_I.intb (lo := 0) (hi := 1600) I_2 sX_209 (by decide +kernel) f_y_3
  refine lv_istore_n (lv' := [(2, .int x_1), (0, .ref (o + 209)), (1, .int 3)]) hx hb dX6_readBoth_5 rfl hl (by decide) rfl (fun ls hl => ?_)
  refine lv_iconst (v := 0) hx hb dX6_readBoth_6 (by decide +kernel) ?_
  refine lv_istore_n (lv' := [(3, .int 0), (2, .int x_1), (0, .ref (o + 209)), (1, .int 3)]) hx hb dX6_readBoth_7 rfl hl (by decide) rfl (fun ls hl => ?_)
  have L_80 : ∀ (n : Nat) (x_76 : Int32) (x_77 : Int32) (x_78 : Int32), (0 ≤ (x_76).toInt ∧ (x_76).toInt ≤ 1600) → (0 ≤ (x_77).toInt ∧ (x_77).toInt ≤ 1) → (0 ≤ (x_78).toInt ∧ (x_78).toInt ≤ 1600) → ((x_78).toInt ≤ (en).toInt) → ((1601 - (x_76).toInt).toNat < n) → ∀ S_79 : dg_S, CX o S_79 → dg_sm shX [(31, 0), (31, 1), (31, 4), (31, 7)] [28] S S_79 → S_79.1 209 4 = .int x_78 → ∀ (H : Heap) (locs : List Loc), va_P D vwCl (dg_w g shX o rfX S_79) H → va_S A s.heap H locs → ∀ ls : Array Slot, lv_has ls 4 [(3, .int x_76), (2, .int x_77), (0, .ref (o + 209)), (1, .int 3)] → W p l e ({ frames := 42, cells := 0, slots := 0, locals := 966 } : Room) s m args below meth c H locs 0 0 (MQ below (va_Qi (fun (r : Int32) S' => CX o S' ∧ dg_sm shX [(31, 0), (31, 1), (31, 4), (31, 7)] [28] S S' ∧ (0 ≤ (r).toInt ∧ (r).toInt ≤ 1) ∧ (∃ y9 : Int32, S'.1 209 4 = .int y9 ∧ ((y9).toInt ≤ (en).toInt)) ∧ True) (dg_B g D shX o rfX) A) args s 0 0 A) (F0 m 8 ls []) := by
    intro n
    induction n with
    | zero =>
      intro x_76 x_77 x_78 b_x_76 b_x_77 b_x_78 rel_0 hmu S_79 I_79 M_79 ff_79_4_209 H locs hP hS ls hl
      omega
    | succ n ih =>
      intro x_76 x_77 x_78 b_x_76 b_x_77 b_x_78 rel_0 hmu S_79 I_79 M_79 ff_79_4_209 H locs hP hS ls hl
      refine lv_iload_n hx hb dX6_readBoth_8 rfl (lv_at hl 0 rfl) ?_
      refine lv_sipush (v := 1600) hx hb dX6_readBoth_9 (by decide +kernel) ?_
      refine lv_icmp_ge (tgt := 50) hx hb dX6_readBoth_12 (by decide) (fun c_81 => ?_) (fun c_81 => ?_)
      · have jc_81 := dk_gec (k := 1600) (by decide +kernel) c_81
        refine lv_iload_n hx hb dX6_readBoth_50 rfl (lv_at hl 1 rfl) ?_
        refine W.widen (k := 0) (n := 0) (Nat.le_of_ble_eq_true rfl) (Nat.le_of_ble_eq_true rfl) ?_
        exact dg_iret hx hb hr hlocks (dk_znar (by omega) (by omega)) hP hS ⟨I_79, M_79, (by omega), ⟨x_78, ff_79_4_209, (by omega)⟩, trivial⟩ dX6_readBoth_51
      · have jc_81 := dk_ngec (k := 1600) (by decide +kernel) c_81
        refine lv_iload_n hx hb dX6_readBoth_15 rfl (lv_at hl 1 rfl) ?_
        refine lv_if_eq (tgt := 50) hx hb dX6_readBoth_16 (by decide) (fun c_82 => ?_) (fun c_82 => ?_)
        · have jc_82 := dk_eqc (k := 0) (by decide +kernel) c_82
          refine lv_iload_n hx hb dX6_readBoth_50 rfl (lv_at hl 1 rfl) ?_
          refine W.widen (k := 0) (n := 0) (Nat.le_of_ble_eq_true rfl) (Nat.le_of_ble_eq_true rfl) ?_
          exact dg_iret hx hb hr hlocks (dk_znar (by omega) (by omega)) hP hS ⟨I_79, M_79, (by omega), ⟨x_78, ff_79_4_209, (by omega)⟩, trivial⟩ dX6_readBoth_51
        · have jc_82 := dk_neqc (k := 0) (by decide +kernel) c_82
          refine lv_aload_n hx hb dX6_readBoth_19 rfl (lv_at hl 2 rfl) ?_
          refine lv_bipush (v := 22) hx hb dX6_readBoth_20 (by decide +kernel) ?_
          refine dg_calli hS hA1 hA (va_runV (As := [.int 22]) (rest := []) F (c_rd_isOwn l g D o S_79 22 en x_78 ff_79_4_209 (by omega) ke ((congrFun (M_79.2 211 _ sX_211 (by decide)).1 _).trans f_ke) (by omega) (by omega) I_79 H.size) (cwV 1 hts (bw_V wB_681 wB_682 wB_683 wB_684 wB_680) rfl rfl rfl (by decide +kernel) ⟨Nat.le_of_ble_eq_true rfl, Nat.le_of_ble_eq_true rfl⟩) (dg_preV sX_209 rfl K ST hP hS hA1 hA) rfl rfl hl.1 rfl (lv_room (Nat.le_of_ble_eq_true rfl)) dX6_readBoth_22 ⟨Nat.le_of_ble_eq_true rfl, Nat.le_of_ble_eq_true rfl⟩) (fun x_83 S_84 hw_84 H locs hP hS => ?_)
          rw [hw_84.1] at hP
          obtain ⟨hq_84, w_84_0, -⟩ := hw_84
          have w_84_0 : 0 ≤ (x_83).toInt ∧ (x_83).toInt ≤ 1 := w_84_0
          refine lv_if_eq (tgt := 50) hx hb dX6_readBoth_25 (by decide) (fun c_85 => ?_) (fun c_85 => ?_)
          · have jc_85 := dk_eqc (k := 0) (by decide +kernel) c_85
            refine lv_iload_n hx hb dX6_readBoth_50 rfl (lv_at hl 1 rfl) ?_
            refine W.widen (k := 0) (n := 0) (Nat.le_of_ble_eq_true rfl) (Nat.le_of_ble_eq_true rfl) ?_
            exact dg_iret hx hb hr hlocks (dk_znar (by omega) (by omega)) hP hS ⟨I_79, M_79, (by omega), ⟨x_78, ff_79_4_209, (by omega)⟩, trivial⟩ dX6_readBoth_51
          · have jc_85 := dk_neqc (k := 0) (by decide +kernel) c_85
            refine lv_aload_n hx hb dX6_readBoth_28 rfl (lv_at hl 2 rfl) ?_
            refine dg_callv hS hA1 hA (va_runV (As := []) (rest := []) F (c_rd_pass l g D o S_79 en x_78 ff_79_4_209 (by omega) ke ((congrFun (M_79.2 211 _ sX_211 (by decide)).1 _).trans f_ke) (by omega) (by omega) I_79 H.size) (cwV 0 hts (bw_V wB_686 wB_687 wB_688 wB_684 wB_685) rfl rfl rfl (by decide +kernel) ⟨Nat.le_of_ble_eq_true rfl, Nat.le_of_ble_eq_true rfl⟩) (dg_preV sX_209 rfl K ST hP hS hA1 hA) rfl rfl hl.1 rfl (lv_room (Nat.le_of_ble_eq_true rfl)) dX6_readBoth_29 ⟨Nat.le_of_ble_eq_true rfl, Nat.le_of_ble_eq_true rfl⟩) (fun S_86 hw_86 H locs hP hS => ?_)
            obtain ⟨I_86, m_86, w_86_0, -⟩ := hw_86
            have M_86 := dg_sm.tr M_79 m_86 (by decide) (by decide)
            obtain ⟨y_87, f_y_87, w_86_0⟩ := w_86_0
            have w_86_0 : (y_87).toInt ≤ (en).toInt := w_86_0
            have b_y_87 : 0 ≤ (y_87).toInt ∧ (y_87).toInt ≤ 1600 := dg_I.intb (lo := 0) (hi := 1600) I_86 sX_209 (by decide +kernel) f_y_87
            refine lv_aload_n hx hb dX6_readBoth_32 rfl (lv_at hl 2 rfl) ?_
            refine lv_iload_n hx hb dX6_readBoth_33 rfl (lv_at hl 3 rfl) ?_
            refine dg_calli hS hA1 hA (va_runV (As := [.int 3]) (rest := []) F (c_rd_readFact_3 l g D o S_86 en y_87 f_y_87 (by omega) ke ((congrFun ((m_86.2 211 _ sX_211 (by decide)).1.trans (M_79.2 211 _ sX_211 (by decide)).1) _).trans f_ke) (by omega) (by omega) I_86 H.size) (cwV 1 hts (bw_V wB_797 wB_798 wB_799 wB_684 wB_796) rfl rfl rfl (by decide +kernel) ⟨Nat.le_of_ble_eq_true rfl, Nat.le_of_ble_eq_true rfl⟩) (dg_preV sX_209 rfl K ST hP hS hA1 hA) rfl rfl hl.1 rfl (lv_room (Nat.le_of_ble_eq_true rfl)) dX6_readBoth_34 ⟨Nat.le_of_ble_eq_true rfl, Nat.le_of_ble_eq_true rfl⟩) (fun x_88 S_89 hw_89 H locs hP hS => ?_)
            obtain ⟨I_89, m_89, w_89_0, w_89_1, -⟩ := hw_89
            have M_89 := dg_sm.tr M_86 m_89 (by decide) (by decide)
            have w_89_0 : 0 ≤ (x_88).toInt ∧ (x_88).toInt ≤ 1 := w_89_0
            obtain ⟨y_90, f_y_90, w_89_1⟩ := w_89_1
            have w_89_1 : (y_90).toInt ≤ (en).toInt := w_89_1
            have b_y_90 : 0 ≤ (y_90).toInt ∧ (y_90).toInt ≤ 1600 := dg_I.intb (lo := 0) (hi := 1600) I_89 sX_209 (by decide +kernel) f_y_90
            refine lv_istore_n (lv' := [(2, .int x_88), (3, .int x_76), (0, .ref (o + 209)), (1, .int 3)]) hx hb dX6_readBoth_37 rfl hl (by decide) rfl (fun ls hl => ?_)
            refine lv_aload_n hx hb dX6_readBoth_38 rfl (lv_at hl 2 rfl) ?_
            refine lv_bipush (v := (-20)) hx hb dX6_readBoth_39 (by decide +kernel) ?_
            refine dg_callv hS hA1 hA (va_runV (As := [.int (-20)]) (rest := []) F (c_rd_put l g D o S_89 (-20) en y_90 f_y_90 (by omega) ke ((congrFun ((m_89.2 211 _ sX_211 (by decide)).1.trans ((m_86.2 211 _ sX_211 (by decide)).1.trans (M_79.2 211 _ sX_211 (by decide)).1)) _).trans f_ke) (by omega) (by omega) I_89 H.size) (cwV 1 hts (bw_V wB_753 wB_754 wB_755 wB_684 wB_752) rfl rfl rfl (by decide +kernel) ⟨Nat.le_of_ble_eq_true rfl, Nat.le_of_ble_eq_true rfl⟩) (dg_preV sX_209 rfl K ST hP hS hA1 hA) rfl rfl hl.1 rfl (lv_room (Nat.le_of_ble_eq_true rfl)) dX6_readBoth_41 ⟨Nat.le_of_ble_eq_true rfl, Nat.le_of_ble_eq_true rfl⟩) (fun S_91 hw_91 H locs hP hS => ?_)
            obtain ⟨I_91, m_91, -⟩ := hw_91
            have M_91 := dg_sm.tr M_89 m_91 (by decide) (by decide)
            obtain ⟨x_92, ex_92⟩ : ∃ z, z = x_76 + 1 := ⟨_, rfl⟩
            have jx_92 : (x_92).toInt = (x_76).toInt + 1 := by rw [ex_92]; exact dk_addT rfl (by decide +kernel) (by omega) (by omega)
            refine lv_iinc (v := x_92) (lv' := [(3, .int x_92), (2, .int x_88), (0, .ref (o + 209)), (1, .int 3)]) hx hb dX6_readBoth_44 hl (k := 1) rfl (by rw [ex_92]; rfl) (by decide) rfl (fun ls hl => ?_)
            refine lv_goto (tgt := 8) hx hb dX6_readBoth_47 (by decide) ?_
            exact ih x_92 x_88 y_90 (by omega) (by omega) (by omega) (by omega) (by omega) S_91 I_91 M_91 ((m_91.1 209 4 _ sX_209 (by decide)).trans f_y_90) _ _ hP hS _ (lv_sub hl [0, 1, 2, 3] rfl)
  have hz_93 : (0 : Int32).toInt = 0 := by decide +kernel
  have hz_94 : (0 : Int32).toInt = 0 := by decide +kernel
  have hz_95 : (0 : Int32).toInt = 0 := by decide +kernel
  exact L_80 ((1601 - ((0 : Int32)).toInt).toNat + 1) 0 x_1 y_3 (by decide +kernel) (by omega) (by omega) (by omega) (by omega) S_2 I_2 M_2 f_y_3 _ _ hP hS _ (lv_sub hl [0, 1, 2, 3] rfl)
set_option maxHeartbeats 8000000 in
set_option maxRecDepth 100000 in
theorem c_rd_readTest_3 (l : Launch) (g : Nat → ClassId) (D : va_G) (o : Nat) (S : dg_S) (en : Int32) (n0 : Int32) (f_n0 : S.1 209 4 = .int n0) (b_n0 : 0 ≤ (n0).toInt ∧ (n0).toInt ≤ 1600) (ke : Int32) (f_ke : S.2.1 211 (en : Int32).toNatClampNeg = ke) (b_ke : 0 ≤ (ke).toInt ∧ (ke).toInt ≤ 0) (hne : (n0).toInt ≤ (en).toInt ∧ (en).toInt ≤ 1600 ∧ 0 ≤ (en).toInt) (I : CX o S) (sz : Nat) : Met l yX6_readTest (bw yX6_readTest cX6_readTest 4 (some .boolean)) ({ frames := 43, cells := 0, slots := 0, locals := 989 } : Room) (dk_Pc g D (dg_w g shX o rfX S) sz [.ref (o + 209), .int 3]) (va_Qi (fun (r : Int32) S' => CX o S' ∧ dg_sm shX [(31, 0), (31, 1), (31, 4), (31, 7)] [28] S S' ∧ (0 ≤ (r).toInt ∧ (r).toInt ≤ 1) ∧ (∃ y9 : Int32, S'.1 209 4 = .int y9 ∧ ((y9).toInt ≤ (en).toInt)) ∧ True) (dg_B g D shX o rfX) (dg_A o shX.length sz)) 0 0 (dg_A o shX.length sz) := by
  refine dg_met (cc := cX6_readTest) (maxL := 4) (ret := (some .boolean)) (by decide) rfl (Nat.le_of_ble_eq_true rfl) ?_
  intro p e s m args below meth c A hAe harg hx hb hr hml hts hown hlocks hin hP K hS hA1 hA ST hsz ls hl
  rw [← hAe]
  have F : CallFix p m c cX6_readTest 4 s args (bw yX6_readTest cX6_readTest 4 (some .boolean)) RX6 := ⟨hx, hb, hml, hown, hts⟩
  have hl : lv_has ls 4 [(0, .ref (o + 209)), (1, .int 3)] := hl
  have M_0 : dg_sm shX [(31, 0), (31, 1), (31, 4), (31, 7)] [28] S S := dg_sm.rf
  refine lv_aload_n hx hb dX6_readTest_0 rfl (lv_at hl 0 rfl) ?_
  refine lv_iload_n hx hb dX6_readTest_1 rfl (lv_at hl 1 rfl) ?_
  refine dg_calli hS hA1 hA (va_runV (As := [.int 3]) (rest := []) F (c_rd_readBoth_3 l g D o S en n0 f_n0 (by omega) ke f_ke (by omega) (by omega) I s.heap.size) (cwV 1 hts (bw_V wB_801 wB_802 wB_803 wB_684 wB_800) rfl rfl rfl (by decide +kernel) ⟨Nat.le_of_ble_eq_true rfl, Nat.le_of_ble_eq_true rfl⟩) (dg_preV sX_209 rfl K ST hP hS hA1 hA) rfl rfl hl.1 rfl (lv_room (Nat.le_of_ble_eq_true rfl)) dX6_readTest_2 ⟨Nat.le_of_ble_eq_true rfl, Nat.le_of_ble_eq_true rfl⟩) (fun x_1 S_2 hw_2 H locs hP hS => ?_)
  obtain ⟨I_2, m_2, w_2_0, w_2_1, -⟩ := hw_2
  have M_2 := dg_sm.tr M_0 m_2 (by decide) (by decide)
  have w_2_0 : 0 ≤ (x_1).toInt ∧ (x_1).toInt ≤ 1 := w_2_0
  obtain ⟨y_3, f_y_3, w_2_1⟩ := w_2_1
  have w_2_1 : (y_3).toInt ≤ (en).toInt := w_2_1
  have b_y_3 : 0 ≤ (y_3).toInt ∧ (y_3).toInt ≤ 1600 := dg_I.intb (lo := 0) (hi := 1600) I_2 sX_209 (by decide +kernel) f_y_3
  refine lv_istore_n (lv' := [(2, .int x_1), (0, .ref (o + 209)), (1, .int 3)]) hx hb dX6_readTest_5 rfl hl (by decide) rfl (fun ls hl => ?_)
  refine lv_iconst (v := 0) hx hb dX6_readTest_6 (by decide +kernel) ?_
  refine lv_istore_n (lv' := [(3, .int 0), (2, .int x_1), (0, .ref (o + 209)), (1, .int 3)]) hx hb dX6_readTest_7 rfl hl (by decide) rfl (fun ls hl => ?_)
  have L_80 : ∀ (n : Nat) (x_76 : Int32) (x_77 : Int32) (x_78 : Int32), (0 ≤ (x_76).toInt ∧ (x_76).toInt ≤ 1600) → (0 ≤ (x_77).toInt ∧ (x_77).toInt ≤ 1) → (0 ≤ (x_78).toInt ∧ (x_78).toInt ≤ 1600) → ((x_78).toInt ≤ (en).toInt) → ((1601 - (x_76).toInt).toNat < n) → ∀ S_79 : dg_S, CX o S_79 → dg_sm shX [(31, 0), (31, 1), (31, 4), (31, 7)] [28] S S_79 → S_79.1 209 4 = .int x_78 → ∀ (H : Heap) (locs : List Loc), va_P D vwCl (dg_w g shX o rfX S_79) H → va_S A s.heap H locs → ∀ ls : Array Slot, lv_has ls 4 [(3, .int x_76), (2, .int x_77), (0, .ref (o + 209)), (1, .int 3)] → W p l e ({ frames := 43, cells := 0, slots := 0, locals := 989 } : Room) s m args below meth c H locs 0 0 (MQ below (va_Qi (fun (r : Int32) S' => CX o S' ∧ dg_sm shX [(31, 0), (31, 1), (31, 4), (31, 7)] [28] S S' ∧ (0 ≤ (r).toInt ∧ (r).toInt ≤ 1) ∧ (∃ y9 : Int32, S'.1 209 4 = .int y9 ∧ ((y9).toInt ≤ (en).toInt)) ∧ True) (dg_B g D shX o rfX) A) args s 0 0 A) (F0 m 8 ls []) := by
    intro n
    induction n with
    | zero =>
      intro x_76 x_77 x_78 b_x_76 b_x_77 b_x_78 rel_0 hmu S_79 I_79 M_79 ff_79_4_209 H locs hP hS ls hl
      omega
    | succ n ih =>
      intro x_76 x_77 x_78 b_x_76 b_x_77 b_x_78 rel_0 hmu S_79 I_79 M_79 ff_79_4_209 H locs hP hS ls hl
      refine lv_iload_n hx hb dX6_readTest_8 rfl (lv_at hl 0 rfl) ?_
      refine lv_sipush (v := 1600) hx hb dX6_readTest_9 (by decide +kernel) ?_
      refine lv_icmp_ge (tgt := 50) hx hb dX6_readTest_12 (by decide) (fun c_81 => ?_) (fun c_81 => ?_)
      · have jc_81 := dk_gec (k := 1600) (by decide +kernel) c_81
        refine lv_iload_n hx hb dX6_readTest_50 rfl (lv_at hl 1 rfl) ?_
        refine W.widen (k := 0) (n := 0) (Nat.le_of_ble_eq_true rfl) (Nat.le_of_ble_eq_true rfl) ?_
        exact dg_iret hx hb hr hlocks (dk_znar (by omega) (by omega)) hP hS ⟨I_79, M_79, (by omega), ⟨x_78, ff_79_4_209, (by omega)⟩, trivial⟩ dX6_readTest_51
      · have jc_81 := dk_ngec (k := 1600) (by decide +kernel) c_81
        refine lv_iload_n hx hb dX6_readTest_15 rfl (lv_at hl 1 rfl) ?_
        refine lv_if_eq (tgt := 50) hx hb dX6_readTest_16 (by decide) (fun c_82 => ?_) (fun c_82 => ?_)
        · have jc_82 := dk_eqc (k := 0) (by decide +kernel) c_82
          refine lv_iload_n hx hb dX6_readTest_50 rfl (lv_at hl 1 rfl) ?_
          refine W.widen (k := 0) (n := 0) (Nat.le_of_ble_eq_true rfl) (Nat.le_of_ble_eq_true rfl) ?_
          exact dg_iret hx hb hr hlocks (dk_znar (by omega) (by omega)) hP hS ⟨I_79, M_79, (by omega), ⟨x_78, ff_79_4_209, (by omega)⟩, trivial⟩ dX6_readTest_51
        · have jc_82 := dk_neqc (k := 0) (by decide +kernel) c_82
          refine lv_aload_n hx hb dX6_readTest_19 rfl (lv_at hl 2 rfl) ?_
          refine lv_bipush (v := 21) hx hb dX6_readTest_20 (by decide +kernel) ?_
          refine dg_calli hS hA1 hA (va_runV (As := [.int 21]) (rest := []) F (c_rd_isOwn l g D o S_79 21 en x_78 ff_79_4_209 (by omega) ke ((congrFun (M_79.2 211 _ sX_211 (by decide)).1 _).trans f_ke) (by omega) (by omega) I_79 H.size) (cwV 1 hts (bw_V wB_681 wB_682 wB_683 wB_684 wB_680) rfl rfl rfl (by decide +kernel) ⟨Nat.le_of_ble_eq_true rfl, Nat.le_of_ble_eq_true rfl⟩) (dg_preV sX_209 rfl K ST hP hS hA1 hA) rfl rfl hl.1 rfl (lv_room (Nat.le_of_ble_eq_true rfl)) dX6_readTest_22 ⟨Nat.le_of_ble_eq_true rfl, Nat.le_of_ble_eq_true rfl⟩) (fun x_83 S_84 hw_84 H locs hP hS => ?_)
          rw [hw_84.1] at hP
          obtain ⟨hq_84, w_84_0, -⟩ := hw_84
          have w_84_0 : 0 ≤ (x_83).toInt ∧ (x_83).toInt ≤ 1 := w_84_0
          refine lv_if_eq (tgt := 50) hx hb dX6_readTest_25 (by decide) (fun c_85 => ?_) (fun c_85 => ?_)
          · have jc_85 := dk_eqc (k := 0) (by decide +kernel) c_85
            refine lv_iload_n hx hb dX6_readTest_50 rfl (lv_at hl 1 rfl) ?_
            refine W.widen (k := 0) (n := 0) (Nat.le_of_ble_eq_true rfl) (Nat.le_of_ble_eq_true rfl) ?_
            exact dg_iret hx hb hr hlocks (dk_znar (by omega) (by omega)) hP hS ⟨I_79, M_79, (by omega), ⟨x_78, ff_79_4_209, (by omega)⟩, trivial⟩ dX6_readTest_51
          · have jc_85 := dk_neqc (k := 0) (by decide +kernel) c_85
            refine lv_aload_n hx hb dX6_readTest_28 rfl (lv_at hl 2 rfl) ?_
            refine dg_callv hS hA1 hA (va_runV (As := []) (rest := []) F (c_rd_pass l g D o S_79 en x_78 ff_79_4_209 (by omega) ke ((congrFun (M_79.2 211 _ sX_211 (by decide)).1 _).trans f_ke) (by omega) (by omega) I_79 H.size) (cwV 0 hts (bw_V wB_686 wB_687 wB_688 wB_684 wB_685) rfl rfl rfl (by decide +kernel) ⟨Nat.le_of_ble_eq_true rfl, Nat.le_of_ble_eq_true rfl⟩) (dg_preV sX_209 rfl K ST hP hS hA1 hA) rfl rfl hl.1 rfl (lv_room (Nat.le_of_ble_eq_true rfl)) dX6_readTest_29 ⟨Nat.le_of_ble_eq_true rfl, Nat.le_of_ble_eq_true rfl⟩) (fun S_86 hw_86 H locs hP hS => ?_)
            obtain ⟨I_86, m_86, w_86_0, -⟩ := hw_86
            have M_86 := dg_sm.tr M_79 m_86 (by decide) (by decide)
            obtain ⟨y_87, f_y_87, w_86_0⟩ := w_86_0
            have w_86_0 : (y_87).toInt ≤ (en).toInt := w_86_0
            have b_y_87 : 0 ≤ (y_87).toInt ∧ (y_87).toInt ≤ 1600 := dg_I.intb (lo := 0) (hi := 1600) I_86 sX_209 (by decide +kernel) f_y_87
            refine lv_aload_n hx hb dX6_readTest_32 rfl (lv_at hl 2 rfl) ?_
            refine lv_iload_n hx hb dX6_readTest_33 rfl (lv_at hl 3 rfl) ?_
            refine dg_calli hS hA1 hA (va_runV (As := [.int 3]) (rest := []) F (c_rd_readBoth_3 l g D o S_86 en y_87 f_y_87 (by omega) ke ((congrFun ((m_86.2 211 _ sX_211 (by decide)).1.trans (M_79.2 211 _ sX_211 (by decide)).1) _).trans f_ke) (by omega) (by omega) I_86 H.size) (cwV 1 hts (bw_V wB_801 wB_802 wB_803 wB_684 wB_800) rfl rfl rfl (by decide +kernel) ⟨Nat.le_of_ble_eq_true rfl, Nat.le_of_ble_eq_true rfl⟩) (dg_preV sX_209 rfl K ST hP hS hA1 hA) rfl rfl hl.1 rfl (lv_room (Nat.le_of_ble_eq_true rfl)) dX6_readTest_34 ⟨Nat.le_of_ble_eq_true rfl, Nat.le_of_ble_eq_true rfl⟩) (fun x_88 S_89 hw_89 H locs hP hS => ?_)
            obtain ⟨I_89, m_89, w_89_0, w_89_1, -⟩ := hw_89
            have M_89 := dg_sm.tr M_86 m_89 (by decide) (by decide)
            have w_89_0 : 0 ≤ (x_88).toInt ∧ (x_88).toInt ≤ 1 := w_89_0
            obtain ⟨y_90, f_y_90, w_89_1⟩ := w_89_1
            have w_89_1 : (y_90).toInt ≤ (en).toInt := w_89_1
            have b_y_90 : 0 ≤ (y_90).toInt ∧ (y_90).toInt ≤ 1600 := dg_I.intb (lo := 0) (hi := 1600) I_89 sX_209 (by decide +kernel) f_y_90
            refine lv_istore_n (lv' := [(2, .int x_88), (3, .int x_76), (0, .ref (o + 209)), (1, .int 3)]) hx hb dX6_readTest_37 rfl hl (by decide) rfl (fun ls hl => ?_)
            refine lv_aload_n hx hb dX6_readTest_38 rfl (lv_at hl 2 rfl) ?_
            refine lv_bipush (v := (-21)) hx hb dX6_readTest_39 (by decide +kernel) ?_
            refine dg_callv hS hA1 hA (va_runV (As := [.int (-21)]) (rest := []) F (c_rd_put l g D o S_89 (-21) en y_90 f_y_90 (by omega) ke ((congrFun ((m_89.2 211 _ sX_211 (by decide)).1.trans ((m_86.2 211 _ sX_211 (by decide)).1.trans (M_79.2 211 _ sX_211 (by decide)).1)) _).trans f_ke) (by omega) (by omega) I_89 H.size) (cwV 1 hts (bw_V wB_753 wB_754 wB_755 wB_684 wB_752) rfl rfl rfl (by decide +kernel) ⟨Nat.le_of_ble_eq_true rfl, Nat.le_of_ble_eq_true rfl⟩) (dg_preV sX_209 rfl K ST hP hS hA1 hA) rfl rfl hl.1 rfl (lv_room (Nat.le_of_ble_eq_true rfl)) dX6_readTest_41 ⟨Nat.le_of_ble_eq_true rfl, Nat.le_of_ble_eq_true rfl⟩) (fun S_91 hw_91 H locs hP hS => ?_)
            obtain ⟨I_91, m_91, -⟩ := hw_91
            have M_91 := dg_sm.tr M_89 m_91 (by decide) (by decide)
            obtain ⟨x_92, ex_92⟩ : ∃ z, z = x_76 + 1 := ⟨_, rfl⟩
            have jx_92 : (x_92).toInt = (x_76).toInt + 1 := by rw [ex_92]; exact dk_addT rfl (by decide +kernel) (by omega) (by omega)
            refine lv_iinc (v := x_92) (lv' := [(3, .int x_92), (2, .int x_88), (0, .ref (o + 209)), (1, .int 3)]) hx hb dX6_readTest_44 hl (k := 1) rfl (by rw [ex_92]; rfl) (by decide) rfl (fun ls hl => ?_)
            refine lv_goto (tgt := 8) hx hb dX6_readTest_47 (by decide) ?_
            exact ih x_92 x_88 y_90 (by omega) (by omega) (by omega) (by omega) (by omega) S_91 I_91 M_91 ((m_91.1 209 4 _ sX_209 (by decide)).trans f_y_90) _ _ hP hS _ (lv_sub hl [0, 1, 2, 3] rfl)
  have hz_93 : (0 : Int32).toInt = 0 := by decide +kernel
  have hz_94 : (0 : Int32).toInt = 0 := by decide +kernel
  have hz_95 : (0 : Int32).toInt = 0 := by decide +kernel
  exact L_80 ((1601 - ((0 : Int32)).toInt).toNat + 1) 0 x_1 y_3 (by decide +kernel) (by omega) (by omega) (by omega) (by omega) S_2 I_2 M_2 f_y_3 _ _ hP hS _ (lv_sub hl [0, 1, 2, 3] rfl)
