/-! 25.l6.lean.txt -/
set_option maxHeartbeats 8000000 in
set_option maxRecDepth 100000 in
theorem c_rd_passOpening_1 (l : Launch) (g : Nat → ClassId) (D : va_G) (o : Nat) (S : dg_S) (en : Int32) (kd : Nat → Int32) (vl : Nat → Int32) (n0 : Int32) (f_n0 : S.1 209 4 = .int n0) (b_n0 : 0 ≤ (n0).toInt ∧ (n0).toInt ≤ 1600) (ke : Int32) (f_ke : S.2.1 211 (en : Int32).toNatClampNeg = ke) (b_ke : 0 ≤ (ke).toInt ∧ (ke).toInt ≤ 0) (hne : (n0).toInt ≤ (en).toInt ∧ (en).toInt ≤ 1600 ∧ 0 ≤ (en).toInt) (hkd : ∀ k9 : Nat, k9 ≤ (en : Int32).toNatClampNeg → S.2.1 211 k9 = kd k9) (hvl : ∀ k9 : Nat, k9 ≤ (en : Int32).toNatClampNeg → S.2.1 213 k9 = vl k9) (I : CX o S) (sz : Nat) : Met l yX6_passOpening (bw yX6_passOpening cX6_passOpening 2 (some .boolean)) ({ frames := 2, cells := 0, slots := 0, locals := 52 } : Room) (dk_Pc g D (dg_w g shX o rfX S) sz [.ref (o + 209), .int 1]) (va_Qi (fun (r : Int32) S' => CX o S' ∧ dg_sm shX [(31, 4)] [] S S' ∧ (1 ≤ (r).toInt ∧ (r).toInt ≤ 1) ∧ (∃ y9 : Int32, S'.1 209 4 = .int y9 ∧ ((y9).toInt ≤ (en).toInt ∧ ((kd (n0 : Int32).toNatClampNeg).toInt ≠ 0 → (y9 : Int32).toNatClampNeg = (n0 : Int32).toNatClampNeg + 1))) ∧ True) (dg_B g D shX o rfX) (dg_A o shX.length sz)) 0 0 (dg_A o shX.length sz) := by
  refine dg_met (cc := cX6_passOpening) (maxL := 2) (ret := (some .boolean)) (by decide) rfl (Nat.le_of_ble_eq_true rfl) ?_
  intro p e s m args below meth c A hAe harg hx hb hr hml hts hown hlocks hin hP K hS hA1 hA ST hsz ls hl
  rw [← hAe]
  have F : CallFix p m c cX6_passOpening 2 s args (bw yX6_passOpening cX6_passOpening 2 (some .boolean)) RX6 := ⟨hx, hb, hml, hown, hts⟩
  have hl : lv_has ls 2 [(0, .ref (o + 209)), (1, .int 1)] := hl
  have M_0 : dg_sm shX [(31, 4)] [] S S := dg_sm.rf
  refine lv_iload_n hx hb dX6_passOpening_0 rfl (lv_at hl 1 rfl) ?_
  refine lv_bipush (v := 7) hx hb dX6_passOpening_1 (by decide +kernel) ?_
  refine lv_icmp_lt (tgt := 12) hx hb dX6_passOpening_3 (by decide) (fun _ => ?_) (fun c => absurd (by decide +kernel) c)
  refine lv_aload_n hx hb dX6_passOpening_12 rfl (lv_at hl 0 rfl) ?_
  refine dg_callv hS hA1 hA (va_runV (As := []) (rest := []) F (c_rd_pass l g D o S en kd vl n0 f_n0 (by omega) ke f_ke (by omega) (by omega) hkd hvl I s.heap.size) (cwV 0 hts (bw_V wB_26 wB_27 wB_28 wB_24 wB_25) rfl rfl rfl (by decide +kernel) ⟨Nat.le_of_ble_eq_true rfl, Nat.le_of_ble_eq_true rfl⟩) (dg_preV sX_209 rfl K ST hP hS hA1 hA) rfl rfl hl.1 rfl (lv_room (Nat.le_of_ble_eq_true rfl)) dX6_passOpening_13 ⟨Nat.le_of_ble_eq_true rfl, Nat.le_of_ble_eq_true rfl⟩) (fun S_1 hw_1 H locs hP hS => ?_)
  obtain ⟨I_1, m_1, w_1_0, -⟩ := hw_1
  have M_1 := dg_sm.tr M_0 m_1 (by decide) (by decide)
  obtain ⟨y_2, f_y_2, w_1_0⟩ := w_1_0
  have w_1_0 : (y_2).toInt ≤ (en).toInt ∧ ((kd (n0 : Int32).toNatClampNeg).toInt ≠ 0 → (y_2 : Int32).toNatClampNeg = (n0 : Int32).toNatClampNeg + 1) := w_1_0
  have b_y_2 : 0 ≤ (y_2).toInt ∧ (y_2).toInt ≤ 1600 := dg_I.intb (lo := 0) (hi := 1600) I_1 sX_209 (by decide +kernel) f_y_2
  refine lv_iconst (v := 1) hx hb dX6_passOpening_16 (by decide +kernel) ?_
  have hz_3 : (1 : Int32).toInt = 1 := by decide +kernel
  have hz_4 : (1 : Int32).toInt = 1 := by decide +kernel
  refine W.widen (k := 0) (n := 0) (Nat.le_of_ble_eq_true rfl) (Nat.le_of_ble_eq_true rfl) ?_
  exact dg_iret hx hb hr hlocks (by decide +kernel) hP hS ⟨I_1, M_1, (by decide +kernel), ⟨y_2, f_y_2, ⟨by omega, fun q9 => by first | exact absurd q9 (by omega) | omega | (unfold Int32.toNatClampNeg; omega)⟩⟩, trivial⟩ dX6_passOpening_17
set_option maxHeartbeats 8000000 in
set_option maxRecDepth 100000 in
theorem c_rd_takeOpening_1 (l : Launch) (g : Nat → ClassId) (D : va_G) (o : Nat) (S : dg_S) (en : Int32) (kd : Nat → Int32) (vl : Nat → Int32) (n0 : Int32) (f_n0 : S.1 209 4 = .int n0) (b_n0 : 0 ≤ (n0).toInt ∧ (n0).toInt ≤ 1600) (ke : Int32) (f_ke : S.2.1 211 (en : Int32).toNatClampNeg = ke) (b_ke : 0 ≤ (ke).toInt ∧ (ke).toInt ≤ 0) (hne : (n0).toInt ≤ (en).toInt ∧ (en).toInt ≤ 1600 ∧ 0 ≤ (en).toInt) (hkd : ∀ k9 : Nat, k9 ≤ (en : Int32).toNatClampNeg → S.2.1 211 k9 = kd k9) (hvl : ∀ k9 : Nat, k9 ≤ (en : Int32).toNatClampNeg → S.2.1 213 k9 = vl k9) (I : CX o S) (sz : Nat) : Met l yX6_takeOpening (bw yX6_takeOpening cX6_takeOpening 2 (some .boolean)) ({ frames := 3, cells := 0, slots := 0, locals := 73 } : Room) (dk_Pc g D (dg_w g shX o rfX S) sz [.ref (o + 209), .int 1]) (va_Qi (fun (r : Int32) S' => CX o S' ∧ dg_sm shX [(31, 0), (31, 1), (31, 4)] [] S S' ∧ (0 ≤ (r).toInt ∧ (r).toInt ≤ 1) ∧ (∃ y9 : Int32, S'.1 209 4 = .int y9 ∧ ((y9).toInt ≤ (en).toInt ∧ g_ans r (g_tk kd vl 40 (n0 : Int32).toNatClampNeg) (y9 : Int32).toNatClampNeg)) ∧ True) (dg_B g D shX o rfX) (dg_A o shX.length sz)) 0 0 (dg_A o shX.length sz) := by
  refine dg_met (cc := cX6_takeOpening) (maxL := 2) (ret := (some .boolean)) (by decide) rfl (Nat.le_of_ble_eq_true rfl) ?_
  intro p e s m args below meth c A hAe harg hx hb hr hml hts hown hlocks hin hP K hS hA1 hA ST hsz ls hl
  rw [← hAe]
  have F : CallFix p m c cX6_takeOpening 2 s args (bw yX6_takeOpening cX6_takeOpening 2 (some .boolean)) RX6 := ⟨hx, hb, hml, hown, hts⟩
  have hl : lv_has ls 2 [(0, .ref (o + 209)), (1, .int 1)] := hl
  have M_0 : dg_sm shX [(31, 0), (31, 1), (31, 4)] [] S S := dg_sm.rf
  refine lv_aload_n hx hb dX6_takeOpening_0 rfl (lv_at hl 0 rfl) ?_
  refine lv_bipush (v := 40) hx hb dX6_takeOpening_1 (by decide +kernel) ?_
  refine dg_calli hS hA1 hA (va_runV (As := [.int 40]) (rest := []) F (c_rd_isSign l g D o S 40 en kd vl n0 f_n0 (by omega) ke f_ke (by omega) (by omega) hkd hvl I s.heap.size) (cwV 1 hts (bw_V wB_34 wB_35 wB_36 wB_24 wB_33) rfl rfl rfl (by decide +kernel) ⟨Nat.le_of_ble_eq_true rfl, Nat.le_of_ble_eq_true rfl⟩) (dg_preV sX_209 rfl K ST hP hS hA1 hA) rfl rfl hl.1 rfl (lv_room (Nat.le_of_ble_eq_true rfl)) dX6_takeOpening_3 ⟨Nat.le_of_ble_eq_true rfl, Nat.le_of_ble_eq_true rfl⟩) (fun x_1 S_2 hw_2 H locs hP hS => ?_)
  rw [hw_2.1] at hP
  obtain ⟨hq_2, w_2_0, w_2_1, -⟩ := hw_2
  have hz_3 : (40 : Int32).toInt = 40 := by decide +kernel
  have w_2_0 : 0 ≤ (x_1).toInt ∧ (x_1).toInt ≤ 1 := w_2_0
  have w_2_1 : (x_1).toInt = 1 ↔ g_s kd vl ((40 : Int32)).toInt (n0 : Int32).toNatClampNeg = true := w_2_1
  refine lv_if_eq (tgt := 17) hx hb dX6_takeOpening_6 (by decide) (fun c_4 => ?_) (fun c_4 => ?_)
  · have jc_4 := dk_eqc (k := 0) (by decide +kernel) c_4
    have qw_2_1 : g_s kd vl 40 (n0 : Int32).toNatClampNeg = false := by have h9 := g_iff_f w_2_1 (by omega); rw [show (40 : Int32).toInt = 40 from by decide +kernel] at h9; exact h9
    refine lv_aload_n hx hb dX6_takeOpening_17 rfl (lv_at hl 0 rfl) ?_
    refine lv_iconst (v := 1) hx hb dX6_takeOpening_18 (by decide +kernel) ?_
    refine dg_calli hS hA1 hA (va_runV (As := [.int 1]) (rest := []) F (c_rd_fail l g D o S 1 en n0 f_n0 (by omega) ke f_ke (by omega) (by omega) I H.size) (cwV 1 hts (bw_V wB_30 wB_31 wB_32 wB_24 wB_29) rfl rfl rfl (by decide +kernel) ⟨Nat.le_of_ble_eq_true rfl, Nat.le_of_ble_eq_true rfl⟩) (dg_preV sX_209 rfl K ST hP hS hA1 hA) rfl rfl hl.1 rfl (lv_room (Nat.le_of_ble_eq_true rfl)) dX6_takeOpening_19 ⟨Nat.le_of_ble_eq_true rfl, Nat.le_of_ble_eq_true rfl⟩) (fun x_5 S_6 hw_6 H locs hP hS => ?_)
    obtain ⟨I_6, m_6, w_6_0, -⟩ := hw_6
    have M_6 := dg_sm.tr M_0 m_6 (by decide) (by decide)
    have w_6_0 : 0 ≤ (x_5).toInt ∧ (x_5).toInt ≤ 0 := w_6_0
    refine W.widen (k := 0) (n := 0) (Nat.le_of_ble_eq_true rfl) (Nat.le_of_ble_eq_true rfl) ?_
    exact dg_iret hx hb hr hlocks (dk_znar (by omega) (by omega)) hP hS ⟨I_6, M_6, (by omega), ⟨n0, ((m_6.1 209 4 _ sX_209 (by decide)).trans f_n0), ⟨by omega, g_ans.n (by omega) (by simp [g_tk, qw_2_1])⟩⟩, trivial⟩ dX6_takeOpening_22
  · have jc_4 := dk_neqc (k := 0) (by decide +kernel) c_4
    have qw_2_1 : g_s kd vl 40 (n0 : Int32).toNatClampNeg = true := by have h9 := w_2_1.mp (by omega); rw [show (40 : Int32).toInt = 40 from by decide +kernel] at h9; exact h9
    refine lv_aload_n hx hb dX6_takeOpening_9 rfl (lv_at hl 0 rfl) ?_
    refine lv_iload_n hx hb dX6_takeOpening_10 rfl (lv_at hl 1 rfl) ?_
    refine dg_calli hS hA1 hA (va_runV (As := [.int 1]) (rest := []) F (c_rd_passOpening_1 l g D o S en kd vl n0 f_n0 (by omega) ke f_ke (by omega) (by omega) hkd hvl I H.size) (cwV 1 hts (bw_V wB_88 wB_89 wB_90 wB_24 wB_87) rfl rfl rfl (by decide +kernel) ⟨Nat.le_of_ble_eq_true rfl, Nat.le_of_ble_eq_true rfl⟩) (dg_preV sX_209 rfl K ST hP hS hA1 hA) rfl rfl hl.1 rfl (lv_room (Nat.le_of_ble_eq_true rfl)) dX6_takeOpening_11 ⟨Nat.le_of_ble_eq_true rfl, Nat.le_of_ble_eq_true rfl⟩) (fun x_7 S_8 hw_8 H locs hP hS => ?_)
    obtain ⟨I_8, m_8, w_8_0, w_8_1, -⟩ := hw_8
    have M_8 := dg_sm.tr M_0 m_8 (by decide) (by decide)
    have w_8_0 : 1 ≤ (x_7).toInt ∧ (x_7).toInt ≤ 1 := w_8_0
    obtain ⟨y_9, f_y_9, w_8_1⟩ := w_8_1
    have w_8_1 : (y_9).toInt ≤ (en).toInt ∧ ((kd (n0 : Int32).toNatClampNeg).toInt ≠ 0 → (y_9 : Int32).toNatClampNeg = (n0 : Int32).toNatClampNeg + 1) := w_8_1
    have b_y_9 : 0 ≤ (y_9).toInt ∧ (y_9).toInt ≤ 1600 := dg_I.intb (lo := 0) (hi := 1600) I_8 sX_209 (by decide +kernel) f_y_9
    have nq_y_9 : (y_9 : Int32).toNatClampNeg = (n0 : Int32).toNatClampNeg + 1 := by have h9 := w_8_1.2 (g_s_ne qw_2_1); omega
    refine lv_goto (tgt := 22) hx hb dX6_takeOpening_14 (by decide) ?_
    refine W.widen (k := 0) (n := 0) (Nat.le_of_ble_eq_true rfl) (Nat.le_of_ble_eq_true rfl) ?_
    exact dg_iret hx hb hr hlocks (dk_znar (by omega) (by omega)) hP hS ⟨I_8, M_8, (by omega), ⟨y_9, f_y_9, ⟨by omega, g_ans.y (by omega) (by simp [g_tk, qw_2_1, nq_y_9])⟩⟩, trivial⟩ dX6_takeOpening_22
set_option maxHeartbeats 8000000 in
set_option maxRecDepth 100000 in
theorem c_rd_readChoice_1 (l : Launch) (g : Nat → ClassId) (D : va_G) (o : Nat) (S : dg_S) (en : Int32) (kd : Nat → Int32) (vl : Nat → Int32) (n0 : Int32) (f_n0 : S.1 209 4 = .int n0) (b_n0 : 0 ≤ (n0).toInt ∧ (n0).toInt ≤ 1600) (ru : Int32) (f_ru : S.1 209 6 = .int ru) (b_ru : 0 ≤ (ru).toInt ∧ (ru).toInt ≤ 2) (sc : Int32) (f_sc : S.1 209 7 = .int sc) (b_sc : 0 ≤ (sc).toInt ∧ (sc).toInt ≤ 1600) (ke : Int32) (f_ke : S.2.1 211 (en : Int32).toNatClampNeg = ke) (b_ke : 0 ≤ (ke).toInt ∧ (ke).toInt ≤ 0) (hne : (n0).toInt ≤ (en).toInt ∧ (en).toInt ≤ 1600 ∧ 0 ≤ (en).toInt) (hkd : ∀ k9 : Nat, k9 ≤ (en : Int32).toNatClampNeg → S.2.1 211 k9 = kd k9) (hvl : ∀ k9 : Nat, k9 ≤ (en : Int32).toNatClampNeg → S.2.1 213 k9 = vl k9) (hsc : (sc).toInt ≤ (n0).toInt) (hkn : (kd (n0 : Int32).toNatClampNeg).toInt ≠ 0) (I : CX o S) (sz : Nat) : Met l yX6_readChoice (bw yX6_readChoice cX6_readChoice 3 (some .boolean)) ({ frames := 52, cells := 0, slots := 0, locals := 1195 } : Room) (dk_Pc g D (dg_w g shX o rfX S) sz [.ref (o + 209), .int 1]) (va_Qi (fun (r : Int32) S' => CX o S' ∧ dg_sm shX [(31, 0), (31, 1), (31, 4), (31, 7)] [28] S S' ∧ (0 ≤ (r).toInt ∧ (r).toInt ≤ 1) ∧ (∃ y9_4 y9_7 : Int32, S'.1 209 4 = .int y9_4 ∧ S'.1 209 7 = .int y9_7 ∧ (((y9_4).toInt ≤ (en).toInt ∧ ((r).toInt = 1 → ((sc).toInt + 1 ≤ (y9_7).toInt ∧ (y9_7).toInt - (sc).toInt ≤ (y9_4).toInt - (n0).toInt))) ∧ g_ans r (x_choice kd vl (x_lv kd vl (ru).toInt 6).1 (x_lv kd vl (ru).toInt 6).2.1 (n0 : Int32).toNatClampNeg) (y9_4 : Int32).toNatClampNeg)) ∧ True) (dg_B g D shX o rfX) (dg_A o shX.length sz)) 0 0 (dg_A o shX.length sz) := by
  refine dg_met (cc := cX6_readChoice) (maxL := 3) (ret := (some .boolean)) (by decide) rfl (Nat.le_of_ble_eq_true rfl) ?_
  intro p e s m args below meth c A hAe harg hx hb hr hml hts hown hlocks hin hP K hS hA1 hA ST hsz ls hl
  rw [← hAe]
  have F : CallFix p m c cX6_readChoice 3 s args (bw yX6_readChoice cX6_readChoice 3 (some .boolean)) RX6 := ⟨hx, hb, hml, hown, hts⟩
  have hl : lv_has ls 3 [(0, .ref (o + 209)), (1, .int 1)] := hl
  have M_0 : dg_sm shX [(31, 0), (31, 1), (31, 4), (31, 7)] [28] S S := dg_sm.rf
  refine lv_aload_n hx hb dX6_readChoice_0 rfl (lv_at hl 0 rfl) ?_
  refine dg_callv hS hA1 hA (va_runV (As := []) (rest := []) F (c_rd_pass l g D o S en kd vl n0 f_n0 (by omega) ke f_ke (by omega) (by omega) hkd hvl I s.heap.size) (cwV 0 hts (bw_V wB_26 wB_27 wB_28 wB_24 wB_25) rfl rfl rfl (by decide +kernel) ⟨Nat.le_of_ble_eq_true rfl, Nat.le_of_ble_eq_true rfl⟩) (dg_preV sX_209 rfl K ST hP hS hA1 hA) rfl rfl hl.1 rfl (lv_room (Nat.le_of_ble_eq_true rfl)) dX6_readChoice_1 ⟨Nat.le_of_ble_eq_true rfl, Nat.le_of_ble_eq_true rfl⟩) (fun S_1 hw_1 H locs hP hS => ?_)
  obtain ⟨I_1, m_1, w_1_0, -⟩ := hw_1
  have M_1 := dg_sm.tr M_0 m_1 (by decide) (by decide)
  obtain ⟨y_2, f_y_2, w_1_0⟩ := w_1_0
  have w_1_0 : (y_2).toInt ≤ (en).toInt ∧ ((kd (n0 : Int32).toNatClampNeg).toInt ≠ 0 → (y_2 : Int32).toNatClampNeg = (n0 : Int32).toNatClampNeg + 1) := w_1_0
  have b_y_2 : 0 ≤ (y_2).toInt ∧ (y_2).toInt ≤ 1600 := dg_I.intb (lo := 0) (hi := 1600) I_1 sX_209 (by decide +kernel) f_y_2
  have nq_y_2 : (y_2 : Int32).toNatClampNeg = (n0 : Int32).toNatClampNeg + 1 := by have h9 := w_1_0.2 hkn; omega
  have ni_y_2 : (y_2).toInt = (n0).toInt + 1 := by have h8 := dk_clN y_2; have h9 := dk_clN n0; omega
  refine lv_aload_n hx hb dX6_readChoice_4 rfl (lv_at hl 0 rfl) ?_
  refine lv_iload_n hx hb dX6_readChoice_5 rfl (lv_at hl 1 rfl) ?_
  refine dg_calli hS hA1 hA (va_runV (As := [.int 1]) (rest := []) F (c_rd_takeOpening_1 l g D o S_1 en kd vl y_2 f_y_2 (by omega) ke ((congrFun (m_1.2 211 _ sX_211 (by decide)).1 _).trans f_ke) (by omega) (by omega) (fun k9 h9 => (congrFun (m_1.2 211 _ sX_211 (by decide)).1 k9).trans (hkd k9 h9)) (fun k9 h9 => (congrFun (m_1.2 213 _ sX_213 (by decide)).1 k9).trans (hvl k9 h9)) I_1 H.size) (cwV 1 hts (bw_V wB_92 wB_93 wB_94 wB_24 wB_91) rfl rfl rfl (by decide +kernel) ⟨Nat.le_of_ble_eq_true rfl, Nat.le_of_ble_eq_true rfl⟩) (dg_preV sX_209 rfl K ST hP hS hA1 hA) rfl rfl hl.1 rfl (lv_room (Nat.le_of_ble_eq_true rfl)) dX6_readChoice_6 ⟨Nat.le_of_ble_eq_true rfl, Nat.le_of_ble_eq_true rfl⟩) (fun x_3 S_4 hw_4 H locs hP hS => ?_)
  obtain ⟨I_4, m_4, w_4_0, w_4_1, -⟩ := hw_4
  have M_4 := dg_sm.tr M_1 m_4 (by decide) (by decide)
  have w_4_0 : 0 ≤ (x_3).toInt ∧ (x_3).toInt ≤ 1 := w_4_0
  obtain ⟨y_5, f_y_5, w_4_1⟩ := w_4_1
  have w_4_1 : (y_5).toInt ≤ (en).toInt ∧ g_ans x_3 (g_tk kd vl 40 (y_2 : Int32).toNatClampNeg) (y_5 : Int32).toNatClampNeg := w_4_1
  have b_y_5 : 0 ≤ (y_5).toInt ∧ (y_5).toInt ≤ 1600 := dg_I.intb (lo := 0) (hi := 1600) I_4 sX_209 (by decide +kernel) f_y_5
  refine lv_if_eq (tgt := 73) hx hb dX6_readChoice_9 (by decide) (fun c_6 => ?_) (fun c_6 => ?_)
  · have jc_6 := dk_eqc (k := 0) (by decide +kernel) c_6
    have qw_4_1 : g_tk kd vl 40 ((n0 : Int32).toNatClampNeg + 1) = none := by have h9 := w_4_1.2.2 (by omega); rw [nq_y_2] at h9; exact h9
    have qw_4_1s := g_tk_none qw_4_1
    refine lv_iconst (v := 0) hx hb dX6_readChoice_73 (by decide +kernel) ?_
    refine lv_istore_n (lv' := [(2, .int 0), (0, .ref (o + 209)), (1, .int 1)]) hx hb dX6_readChoice_74 rfl hl (by decide) rfl (fun ls hl => ?_)
    refine lv_aload_n hx hb dX6_readChoice_75 rfl (lv_at hl 1 rfl) ?_
    refine lv_bipush (v := (-9)) hx hb dX6_readChoice_76 (by decide +kernel) ?_
    refine dg_callv hS hA1 hA (va_runV (As := [.int (-9)]) (rest := []) F (c_rd_put l g D o S_4 (-9) en y_5 f_y_5 (by omega) sc (((m_4.1 209 7 _ sX_209 (by decide)).trans (m_1.1 209 7 _ sX_209 (by decide))).trans f_sc) (by omega) ke ((congrFun ((m_4.2 211 _ sX_211 (by decide)).1.trans (m_1.2 211 _ sX_211 (by decide)).1) _).trans f_ke) (by omega) (by omega) I_4 H.size) (cwV 1 hts (bw_V wB_96 wB_97 wB_98 wB_24 wB_95) rfl rfl rfl (by decide +kernel) ⟨Nat.le_of_ble_eq_true rfl, Nat.le_of_ble_eq_true rfl⟩) (dg_preV sX_209 rfl K ST hP hS hA1 hA) rfl rfl hl.1 rfl (lv_room (Nat.le_of_ble_eq_true rfl)) dX6_readChoice_78 ⟨Nat.le_of_ble_eq_true rfl, Nat.le_of_ble_eq_true rfl⟩) (fun S_7 hw_7 H locs hP hS => ?_)
    obtain ⟨I_7, m_7, w_7_0, -⟩ := hw_7
    have M_7 := dg_sm.tr M_4 m_7 (by decide) (by decide)
    have hz_8 : (-9 : Int32).toInt = (-9) := by decide +kernel
    obtain ⟨y_9, f_y_9, w_7_0⟩ := w_7_0
    have w_7_0 : (sc).toInt < 1600 → (y_9).toInt = (sc).toInt + 1 := w_7_0
    have b_y_9 : 0 ≤ (y_9).toInt ∧ (y_9).toInt ≤ 1600 := dg_I.intb (lo := 0) (hi := 1600) I_7 sX_209 (by decide +kernel) f_y_9
    refine lv_iload_n hx hb dX6_readChoice_81 rfl (lv_at hl 0 rfl) ?_
    have hz_10 : (0 : Int32).toInt = 0 := by decide +kernel
    have hz_11 : (0 : Int32).toInt = 0 := by decide +kernel
    refine W.widen (k := 0) (n := 0) (Nat.le_of_ble_eq_true rfl) (Nat.le_of_ble_eq_true rfl) ?_
    exact dg_iret hx hb hr hlocks (by decide +kernel) hP hS ⟨I_7, M_7, (by decide +kernel), ⟨y_5, y_9, ((m_7.1 209 4 _ sX_209 (by decide)).trans f_y_5), f_y_9, ⟨⟨by omega, by omega⟩, g_ans.n (by omega) (by simp [x_choice, x_pair, g_tk, nq_y_2, qw_4_1s])⟩⟩, trivial⟩ dX6_readChoice_82
  · have jc_6 := dk_neqc (k := 0) (by decide +kernel) c_6
    have qw_4_1 : g_tk kd vl 40 ((n0 : Int32).toNatClampNeg + 1) = some (y_5 : Int32).toNatClampNeg := by have h9 := w_4_1.2.1 (by omega); rw [nq_y_2] at h9; exact h9
    have qw_4_1s := (g_tk_some qw_4_1).1
    have nq_y_5 : (y_5 : Int32).toNatClampNeg = (n0 : Int32).toNatClampNeg + 2 := by have h9 := (g_tk_some qw_4_1).2; omega
    have ni_y_5 : (y_5).toInt = (n0).toInt + 2 := by have h8 := dk_clN y_5; have h9 := dk_clN n0; omega
    refine lv_aload_n hx hb dX6_readChoice_12 rfl (lv_at hl 0 rfl) ?_
    refine lv_iload_n hx hb dX6_readChoice_13 rfl (lv_at hl 1 rfl) ?_
    refine lv_iconst (v := 1) hx hb dX6_readChoice_14 (by decide +kernel) ?_
    refine lv_iadd hx hb dX6_readChoice_15 ?_
    refine dk_top (y := 2) (by decide +kernel) ?_
    refine dg_calli hS hA1 hA (va_runV (As := [.int 2]) (rest := []) F (c_rd_readTest_2 l g D o S_4 en kd vl y_5 f_y_5 (by omega) ru (((m_4.1 209 6 _ sX_209 (by decide)).trans (m_1.1 209 6 _ sX_209 (by decide))).trans f_ru) (by omega) sc (((m_4.1 209 7 _ sX_209 (by decide)).trans (m_1.1 209 7 _ sX_209 (by decide))).trans f_sc) (by omega) ke ((congrFun ((m_4.2 211 _ sX_211 (by decide)).1.trans (m_1.2 211 _ sX_211 (by decide)).1) _).trans f_ke) (by omega) (by omega) (fun k9 h9 => (congrFun ((m_4.2 211 _ sX_211 (by decide)).1.trans (m_1.2 211 _ sX_211 (by decide)).1) k9).trans (hkd k9 h9)) (fun k9 h9 => (congrFun ((m_4.2 213 _ sX_213 (by decide)).1.trans (m_1.2 213 _ sX_213 (by decide)).1) k9).trans (hvl k9 h9)) (by omega) I_4 H.size) (cwV 1 hts (bw_V wB_148 wB_149 wB_150 wB_24 wB_147) rfl rfl rfl (by decide +kernel) ⟨Nat.le_of_ble_eq_true rfl, Nat.le_of_ble_eq_true rfl⟩) (dg_preV sX_209 rfl K ST hP hS hA1 hA) rfl rfl hl.1 rfl (lv_room (Nat.le_of_ble_eq_true rfl)) dX6_readChoice_16 ⟨Nat.le_of_ble_eq_true rfl, Nat.le_of_ble_eq_true rfl⟩) (fun x_12 S_13 hw_13 H locs hP hS => ?_)
    obtain ⟨I_13, m_13, w_13_0, w_13_1, -⟩ := hw_13
    have M_13 := dg_sm.tr M_4 m_13 (by decide) (by decide)
    have w_13_0 : 0 ≤ (x_12).toInt ∧ (x_12).toInt ≤ 1 := w_13_0
    obtain ⟨y_14, y_15, f_y_14, f_y_15, w_13_1⟩ := w_13_1
    have w_13_1 : ((y_14).toInt ≤ (en).toInt ∧ ((x_12).toInt = 1 → ((sc).toInt + 1 ≤ (y_15).toInt ∧ (y_15).toInt - (sc).toInt ≤ (y_14).toInt - (y_5).toInt))) ∧ g_ans x_12 ((x_lv kd vl (ru).toInt 6).2.1 (y_5 : Int32).toNatClampNeg) (y_14 : Int32).toNatClampNeg := w_13_1
    have b_y_14 : 0 ≤ (y_14).toInt ∧ (y_14).toInt ≤ 1600 := dg_I.intb (lo := 0) (hi := 1600) I_13 sX_209 (by decide +kernel) f_y_14
    have b_y_15 : 0 ≤ (y_15).toInt ∧ (y_15).toInt ≤ 1600 := dg_I.intb (lo := 0) (hi := 1600) I_13 sX_209 (by decide +kernel) f_y_15
    refine lv_if_eq (tgt := 73) hx hb dX6_readChoice_19 (by decide) (fun c_16 => ?_) (fun c_16 => ?_)
    · have jc_16 := dk_eqc (k := 0) (by decide +kernel) c_16
      have qw_13_1 : (x_lv kd vl (ru).toInt 6).2.1 ((n0 : Int32).toNatClampNeg + 2) = none := by have h9 := w_13_1.2.2 (by omega); rw [nq_y_5] at h9; exact h9
      refine lv_iconst (v := 0) hx hb dX6_readChoice_73 (by decide +kernel) ?_
      refine lv_istore_n (lv' := [(2, .int 0), (0, .ref (o + 209)), (1, .int 1)]) hx hb dX6_readChoice_74 rfl hl (by decide) rfl (fun ls hl => ?_)
      refine lv_aload_n hx hb dX6_readChoice_75 rfl (lv_at hl 1 rfl) ?_
      refine lv_bipush (v := (-9)) hx hb dX6_readChoice_76 (by decide +kernel) ?_
      refine dg_callv hS hA1 hA (va_runV (As := [.int (-9)]) (rest := []) F (c_rd_put l g D o S_13 (-9) en y_14 f_y_14 (by omega) y_15 f_y_15 (by omega) ke ((congrFun ((m_13.2 211 _ sX_211 (by decide)).1.trans ((m_4.2 211 _ sX_211 (by decide)).1.trans (m_1.2 211 _ sX_211 (by decide)).1)) _).trans f_ke) (by omega) (by omega) I_13 H.size) (cwV 1 hts (bw_V wB_96 wB_97 wB_98 wB_24 wB_95) rfl rfl rfl (by decide +kernel) ⟨Nat.le_of_ble_eq_true rfl, Nat.le_of_ble_eq_true rfl⟩) (dg_preV sX_209 rfl K ST hP hS hA1 hA) rfl rfl hl.1 rfl (lv_room (Nat.le_of_ble_eq_true rfl)) dX6_readChoice_78 ⟨Nat.le_of_ble_eq_true rfl, Nat.le_of_ble_eq_true rfl⟩) (fun S_17 hw_17 H locs hP hS => ?_)
      obtain ⟨I_17, m_17, w_17_0, -⟩ := hw_17
      have M_17 := dg_sm.tr M_13 m_17 (by decide) (by decide)
      have hz_18 : (-9 : Int32).toInt = (-9) := by decide +kernel
      obtain ⟨y_19, f_y_19, w_17_0⟩ := w_17_0
      have w_17_0 : (y_15).toInt < 1600 → (y_19).toInt = (y_15).toInt + 1 := w_17_0
      have b_y_19 : 0 ≤ (y_19).toInt ∧ (y_19).toInt ≤ 1600 := dg_I.intb (lo := 0) (hi := 1600) I_17 sX_209 (by decide +kernel) f_y_19
      refine lv_iload_n hx hb dX6_readChoice_81 rfl (lv_at hl 0 rfl) ?_
      have hz_20 : (0 : Int32).toInt = 0 := by decide +kernel
      have hz_21 : (0 : Int32).toInt = 0 := by decide +kernel
      refine W.widen (k := 0) (n := 0) (Nat.le_of_ble_eq_true rfl) (Nat.le_of_ble_eq_true rfl) ?_
      exact dg_iret hx hb hr hlocks (by decide +kernel) hP hS ⟨I_17, M_17, (by decide +kernel), ⟨y_14, y_19, ((m_17.1 209 4 _ sX_209 (by decide)).trans f_y_14), f_y_19, ⟨⟨by omega, by omega⟩, g_ans.n (by omega) (by simp [x_choice, x_pair, g_tk, nq_y_2, qw_4_1s, nq_y_5, qw_13_1])⟩⟩, trivial⟩ dX6_readChoice_82
    · have jc_16 := dk_neqc (k := 0) (by decide +kernel) c_16
      have qw_13_1 : (x_lv kd vl (ru).toInt 6).2.1 ((n0 : Int32).toNatClampNeg + 2) = some (y_14 : Int32).toNatClampNeg := by have h9 := w_13_1.2.1 (by omega); rw [nq_y_5] at h9; exact h9
      refine lv_aload_n hx hb dX6_readChoice_22 rfl (lv_at hl 0 rfl) ?_
      refine lv_bipush (v := 44) hx hb dX6_readChoice_23 (by decide +kernel) ?_
      refine dg_calli hS hA1 hA (va_runV (As := [.int 44]) (rest := []) F (c_rd_takeSign l g D o S_13 44 en kd vl y_14 f_y_14 (by omega) ke ((congrFun ((m_13.2 211 _ sX_211 (by decide)).1.trans ((m_4.2 211 _ sX_211 (by decide)).1.trans (m_1.2 211 _ sX_211 (by decide)).1)) _).trans f_ke) (by omega) (by omega) (fun k9 h9 => (congrFun ((m_13.2 211 _ sX_211 (by decide)).1.trans ((m_4.2 211 _ sX_211 (by decide)).1.trans (m_1.2 211 _ sX_211 (by decide)).1)) k9).trans (hkd k9 h9)) (fun k9 h9 => (congrFun ((m_13.2 213 _ sX_213 (by decide)).1.trans ((m_4.2 213 _ sX_213 (by decide)).1.trans (m_1.2 213 _ sX_213 (by decide)).1)) k9).trans (hvl k9 h9)) I_13 H.size) (cwV 1 hts (bw_V wB_152 wB_153 wB_154 wB_24 wB_151) rfl rfl rfl (by decide +kernel) ⟨Nat.le_of_ble_eq_true rfl, Nat.le_of_ble_eq_true rfl⟩) (dg_preV sX_209 rfl K ST hP hS hA1 hA) rfl rfl hl.1 rfl (lv_room (Nat.le_of_ble_eq_true rfl)) dX6_readChoice_25 ⟨Nat.le_of_ble_eq_true rfl, Nat.le_of_ble_eq_true rfl⟩) (fun x_22 S_23 hw_23 H locs hP hS => ?_)
      obtain ⟨I_23, m_23, w_23_0, w_23_1, -⟩ := hw_23
      have M_23 := dg_sm.tr M_13 m_23 (by decide) (by decide)
      have hz_24 : (44 : Int32).toInt = 44 := by decide +kernel
      have w_23_0 : 0 ≤ (x_22).toInt ∧ (x_22).toInt ≤ 1 := w_23_0
      obtain ⟨y_25, f_y_25, w_23_1⟩ := w_23_1
      have w_23_1 : (y_25).toInt ≤ (en).toInt ∧ g_ans x_22 (g_tk kd vl ((44 : Int32)).toInt (y_14 : Int32).toNatClampNeg) (y_25 : Int32).toNatClampNeg := w_23_1
      have b_y_25 : 0 ≤ (y_25).toInt ∧ (y_25).toInt ≤ 1600 := dg_I.intb (lo := 0) (hi := 1600) I_23 sX_209 (by decide +kernel) f_y_25
      refine lv_if_eq (tgt := 73) hx hb dX6_readChoice_28 (by decide) (fun c_26 => ?_) (fun c_26 => ?_)
      · have jc_26 := dk_eqc (k := 0) (by decide +kernel) c_26
        have qw_23_1 : g_tk kd vl 44 (y_14 : Int32).toNatClampNeg = none := by have h9 := w_23_1.2.2 (by omega); rw [show (44 : Int32).toInt = 44 from by decide +kernel] at h9; exact h9
        have qw_23_1s := g_tk_none qw_23_1
        refine lv_iconst (v := 0) hx hb dX6_readChoice_73 (by decide +kernel) ?_
        refine lv_istore_n (lv' := [(2, .int 0), (0, .ref (o + 209)), (1, .int 1)]) hx hb dX6_readChoice_74 rfl hl (by decide) rfl (fun ls hl => ?_)
        refine lv_aload_n hx hb dX6_readChoice_75 rfl (lv_at hl 1 rfl) ?_
        refine lv_bipush (v := (-9)) hx hb dX6_readChoice_76 (by decide +kernel) ?_
        refine dg_callv hS hA1 hA (va_runV (As := [.int (-9)]) (rest := []) F (c_rd_put l g D o S_23 (-9) en y_25 f_y_25 (by omega) y_15 ((m_23.1 209 7 _ sX_209 (by decide)).trans f_y_15) (by omega) ke ((congrFun ((m_23.2 211 _ sX_211 (by decide)).1.trans ((m_13.2 211 _ sX_211 (by decide)).1.trans ((m_4.2 211 _ sX_211 (by decide)).1.trans (m_1.2 211 _ sX_211 (by decide)).1))) _).trans f_ke) (by omega) (by omega) I_23 H.size) (cwV 1 hts (bw_V wB_96 wB_97 wB_98 wB_24 wB_95) rfl rfl rfl (by decide +kernel) ⟨Nat.le_of_ble_eq_true rfl, Nat.le_of_ble_eq_true rfl⟩) (dg_preV sX_209 rfl K ST hP hS hA1 hA) rfl rfl hl.1 rfl (lv_room (Nat.le_of_ble_eq_true rfl)) dX6_readChoice_78 ⟨Nat.le_of_ble_eq_true rfl, Nat.le_of_ble_eq_true rfl⟩) (fun S_27 hw_27 H locs hP hS => ?_)
        obtain ⟨I_27, m_27, w_27_0, -⟩ := hw_27
        have M_27 := dg_sm.tr M_23 m_27 (by decide) (by decide)
        have hz_28 : (-9 : Int32).toInt = (-9) := by decide +kernel
        obtain ⟨y_29, f_y_29, w_27_0⟩ := w_27_0
        have w_27_0 : (y_15).toInt < 1600 → (y_29).toInt = (y_15).toInt + 1 := w_27_0
        have b_y_29 : 0 ≤ (y_29).toInt ∧ (y_29).toInt ≤ 1600 := dg_I.intb (lo := 0) (hi := 1600) I_27 sX_209 (by decide +kernel) f_y_29
        refine lv_iload_n hx hb dX6_readChoice_81 rfl (lv_at hl 0 rfl) ?_
        have hz_30 : (0 : Int32).toInt = 0 := by decide +kernel
        have hz_31 : (0 : Int32).toInt = 0 := by decide +kernel
        refine W.widen (k := 0) (n := 0) (Nat.le_of_ble_eq_true rfl) (Nat.le_of_ble_eq_true rfl) ?_
        exact dg_iret hx hb hr hlocks (by decide +kernel) hP hS ⟨I_27, M_27, (by decide +kernel), ⟨y_25, y_29, ((m_27.1 209 4 _ sX_209 (by decide)).trans f_y_25), f_y_29, ⟨⟨by omega, by omega⟩, g_ans.n (by omega) (by simp [x_choice, x_pair, g_tk, nq_y_2, qw_4_1s, nq_y_5, qw_13_1, qw_23_1s])⟩⟩, trivial⟩ dX6_readChoice_82
      · have jc_26 := dk_neqc (k := 0) (by decide +kernel) c_26
        have qw_23_1 : g_tk kd vl 44 (y_14 : Int32).toNatClampNeg = some (y_25 : Int32).toNatClampNeg := by have h9 := w_23_1.2.1 (by omega); rw [show (44 : Int32).toInt = 44 from by decide +kernel] at h9; exact h9
        have qw_23_1s := (g_tk_some qw_23_1).1
        have nq_y_25 : (y_25 : Int32).toNatClampNeg = (y_14 : Int32).toNatClampNeg + 1 := by have h9 := (g_tk_some qw_23_1).2; omega
        have ni_y_25 : (y_25).toInt = (y_14).toInt + 1 := by have h8 := dk_clN y_25; have h9 := dk_clN y_14; omega
        refine lv_aload_n hx hb dX6_readChoice_31 rfl (lv_at hl 0 rfl) ?_
        refine lv_iload_n hx hb dX6_readChoice_32 rfl (lv_at hl 1 rfl) ?_
        refine lv_iconst (v := 1) hx hb dX6_readChoice_33 (by decide +kernel) ?_
        refine lv_iadd hx hb dX6_readChoice_34 ?_
        refine dk_top (y := 2) (by decide +kernel) ?_
        refine dg_calli hS hA1 hA (va_runV (As := [.int 2]) (rest := []) F (c_rd_readSum_2 l g D o S_23 en kd vl y_25 f_y_25 (by omega) ru (((m_23.1 209 6 _ sX_209 (by decide)).trans ((m_13.1 209 6 _ sX_209 (by decide)).trans ((m_4.1 209 6 _ sX_209 (by decide)).trans (m_1.1 209 6 _ sX_209 (by decide))))).trans f_ru) (by omega) y_15 ((m_23.1 209 7 _ sX_209 (by decide)).trans f_y_15) (by omega) ke ((congrFun ((m_23.2 211 _ sX_211 (by decide)).1.trans ((m_13.2 211 _ sX_211 (by decide)).1.trans ((m_4.2 211 _ sX_211 (by decide)).1.trans (m_1.2 211 _ sX_211 (by decide)).1))) _).trans f_ke) (by omega) (by omega) (fun k9 h9 => (congrFun ((m_23.2 211 _ sX_211 (by decide)).1.trans ((m_13.2 211 _ sX_211 (by decide)).1.trans ((m_4.2 211 _ sX_211 (by decide)).1.trans (m_1.2 211 _ sX_211 (by decide)).1))) k9).trans (hkd k9 h9)) (fun k9 h9 => (congrFun ((m_23.2 213 _ sX_213 (by decide)).1.trans ((m_13.2 213 _ sX_213 (by decide)).1.trans ((m_4.2 213 _ sX_213 (by decide)).1.trans (m_1.2 213 _ sX_213 (by decide)).1))) k9).trans (hvl k9 h9)) (by omega) I_23 H.size) (cwV 1 hts (bw_V wB_128 wB_129 wB_130 wB_24 wB_127) rfl rfl rfl (by decide +kernel) ⟨Nat.le_of_ble_eq_true rfl, Nat.le_of_ble_eq_true rfl⟩) (dg_preV sX_209 rfl K ST hP hS hA1 hA) rfl rfl hl.1 rfl (lv_room (Nat.le_of_ble_eq_true rfl)) dX6_readChoice_35 ⟨Nat.le_of_ble_eq_true rfl, Nat.le_of_ble_eq_true rfl⟩) (fun x_32 S_33 hw_33 H locs hP hS => ?_)
        obtain ⟨I_33, m_33, w_33_0, w_33_1, -⟩ := hw_33
        have M_33 := dg_sm.tr M_23 m_33 (by decide) (by decide)
        have w_33_0 : 0 ≤ (x_32).toInt ∧ (x_32).toInt ≤ 1 := w_33_0
        obtain ⟨y_34, y_35, f_y_34, f_y_35, w_33_1⟩ := w_33_1
        have w_33_1 : ((y_34).toInt ≤ (en).toInt ∧ ((x_32).toInt = 1 → ((y_15).toInt + 1 ≤ (y_35).toInt ∧ (y_35).toInt - (y_15).toInt ≤ (y_34).toInt - (y_25).toInt))) ∧ g_ans x_32 ((x_lv kd vl (ru).toInt 6).1 (y_25 : Int32).toNatClampNeg) (y_34 : Int32).toNatClampNeg := w_33_1
        have b_y_34 : 0 ≤ (y_34).toInt ∧ (y_34).toInt ≤ 1600 := dg_I.intb (lo := 0) (hi := 1600) I_33 sX_209 (by decide +kernel) f_y_34
        have b_y_35 : 0 ≤ (y_35).toInt ∧ (y_35).toInt ≤ 1600 := dg_I.intb (lo := 0) (hi := 1600) I_33 sX_209 (by decide +kernel) f_y_35
        refine lv_if_eq (tgt := 73) hx hb dX6_readChoice_38 (by decide) (fun c_36 => ?_) (fun c_36 => ?_)
        · have jc_36 := dk_eqc (k := 0) (by decide +kernel) c_36
          have qw_33_1 : (x_lv kd vl (ru).toInt 6).1 ((y_14 : Int32).toNatClampNeg + 1) = none := by have h9 := w_33_1.2.2 (by omega); rw [nq_y_25] at h9; exact h9
          refine lv_iconst (v := 0) hx hb dX6_readChoice_73 (by decide +kernel) ?_
          refine lv_istore_n (lv' := [(2, .int 0), (0, .ref (o + 209)), (1, .int 1)]) hx hb dX6_readChoice_74 rfl hl (by decide) rfl (fun ls hl => ?_)
          refine lv_aload_n hx hb dX6_readChoice_75 rfl (lv_at hl 1 rfl) ?_
          refine lv_bipush (v := (-9)) hx hb dX6_readChoice_76 (by decide +kernel) ?_
          refine dg_callv hS hA1 hA (va_runV (As := [.int (-9)]) (rest := []) F (c_rd_put l g D o S_33 (-9) en y_34 f_y_34 (by omega) y_35 f_y_35 (by omega) ke ((congrFun ((m_33.2 211 _ sX_211 (by decide)).1.trans ((m_23.2 211 _ sX_211 (by decide)).1.trans ((m_13.2 211 _ sX_211 (by decide)).1.trans ((m_4.2 211 _ sX_211 (by decide)).1.trans (m_1.2 211 _ sX_211 (by decide)).1)))) _).trans f_ke) (by omega) (by omega) I_33 H.size) (cwV 1 hts (bw_V wB_96 wB_97 wB_98 wB_24 wB_95) rfl rfl rfl (by decide +kernel) ⟨Nat.le_of_ble_eq_true rfl, Nat.le_of_ble_eq_true rfl⟩) (dg_preV sX_209 rfl K ST hP hS hA1 hA) rfl rfl hl.1 rfl (lv_room (Nat.le_of_ble_eq_true rfl)) dX6_readChoice_78 ⟨Nat.le_of_ble_eq_true rfl, Nat.le_of_ble_eq_true rfl⟩) (fun S_37 hw_37 H locs hP hS => ?_)
          obtain ⟨I_37, m_37, w_37_0, -⟩ := hw_37
          have M_37 := dg_sm.tr M_33 m_37 (by decide) (by decide)
          have hz_38 : (-9 : Int32).toInt = (-9) := by decide +kernel
          obtain ⟨y_39, f_y_39, w_37_0⟩ := w_37_0
          have w_37_0 : (y_35).toInt < 1600 → (y_39).toInt = (y_35).toInt + 1 := w_37_0
          have b_y_39 : 0 ≤ (y_39).toInt ∧ (y_39).toInt ≤ 1600 := dg_I.intb (lo := 0) (hi := 1600) I_37 sX_209 (by decide +kernel) f_y_39
          refine lv_iload_n hx hb dX6_readChoice_81 rfl (lv_at hl 0 rfl) ?_
          have hz_40 : (0 : Int32).toInt = 0 := by decide +kernel
          have hz_41 : (0 : Int32).toInt = 0 := by decide +kernel
          refine W.widen (k := 0) (n := 0) (Nat.le_of_ble_eq_true rfl) (Nat.le_of_ble_eq_true rfl) ?_
          exact dg_iret hx hb hr hlocks (by decide +kernel) hP hS ⟨I_37, M_37, (by decide +kernel), ⟨y_34, y_39, ((m_37.1 209 4 _ sX_209 (by decide)).trans f_y_34), f_y_39, ⟨⟨by omega, by omega⟩, g_ans.n (by omega) (by simp [x_choice, x_pair, g_tk, nq_y_2, qw_4_1s, nq_y_5, qw_13_1, qw_23_1s, nq_y_25, qw_33_1])⟩⟩, trivial⟩ dX6_readChoice_82
        · have jc_36 := dk_neqc (k := 0) (by decide +kernel) c_36
          have qw_33_1 : (x_lv kd vl (ru).toInt 6).1 ((y_14 : Int32).toNatClampNeg + 1) = some (y_34 : Int32).toNatClampNeg := by have h9 := w_33_1.2.1 (by omega); rw [nq_y_25] at h9; exact h9
          refine lv_aload_n hx hb dX6_readChoice_41 rfl (lv_at hl 0 rfl) ?_
          refine lv_bipush (v := 44) hx hb dX6_readChoice_42 (by decide +kernel) ?_
          refine dg_calli hS hA1 hA (va_runV (As := [.int 44]) (rest := []) F (c_rd_takeSign l g D o S_33 44 en kd vl y_34 f_y_34 (by omega) ke ((congrFun ((m_33.2 211 _ sX_211 (by decide)).1.trans ((m_23.2 211 _ sX_211 (by decide)).1.trans ((m_13.2 211 _ sX_211 (by decide)).1.trans ((m_4.2 211 _ sX_211 (by decide)).1.trans (m_1.2 211 _ sX_211 (by decide)).1)))) _).trans f_ke) (by omega) (by omega) (fun k9 h9 => (congrFun ((m_33.2 211 _ sX_211 (by decide)).1.trans ((m_23.2 211 _ sX_211 (by decide)).1.trans ((m_13.2 211 _ sX_211 (by decide)).1.trans ((m_4.2 211 _ sX_211 (by decide)).1.trans (m_1.2 211 _ sX_211 (by decide)).1)))) k9).trans (hkd k9 h9)) (fun k9 h9 => (congrFun ((m_33.2 213 _ sX_213 (by decide)).1.trans ((m_23.2 213 _ sX_213 (by decide)).1.trans ((m_13.2 213 _ sX_213 (by decide)).1.trans ((m_4.2 213 _ sX_213 (by decide)).1.trans (m_1.2 213 _ sX_213 (by decide)).1)))) k9).trans (hvl k9 h9)) I_33 H.size) (cwV 1 hts (bw_V wB_152 wB_153 wB_154 wB_24 wB_151) rfl rfl rfl (by decide +kernel) ⟨Nat.le_of_ble_eq_true rfl, Nat.le_of_ble_eq_true rfl⟩) (dg_preV sX_209 rfl K ST hP hS hA1 hA) rfl rfl hl.1 rfl (lv_room (Nat.le_of_ble_eq_true rfl)) dX6_readChoice_44 ⟨Nat.le_of_ble_eq_true rfl, Nat.le_of_ble_eq_true rfl⟩) (fun x_42 S_43 hw_43 H locs hP hS => ?_)
          obtain ⟨I_43, m_43, w_43_0, w_43_1, -⟩ := hw_43
          have M_43 := dg_sm.tr M_33 m_43 (by decide) (by decide)
          have hz_44 : (44 : Int32).toInt = 44 := by decide +kernel
          have w_43_0 : 0 ≤ (x_42).toInt ∧ (x_42).toInt ≤ 1 := w_43_0
          obtain ⟨y_45, f_y_45, w_43_1⟩ := w_43_1
          have w_43_1 : (y_45).toInt ≤ (en).toInt ∧ g_ans x_42 (g_tk kd vl ((44 : Int32)).toInt (y_34 : Int32).toNatClampNeg) (y_45 : Int32).toNatClampNeg := w_43_1
          have b_y_45 : 0 ≤ (y_45).toInt ∧ (y_45).toInt ≤ 1600 := dg_I.intb (lo := 0) (hi := 1600) I_43 sX_209 (by decide +kernel) f_y_45
          refine lv_if_eq (tgt := 73) hx hb dX6_readChoice_47 (by decide) (fun c_46 => ?_) (fun c_46 => ?_)
          · have jc_46 := dk_eqc (k := 0) (by decide +kernel) c_46
            have qw_43_1 : g_tk kd vl 44 (y_34 : Int32).toNatClampNeg = none := by have h9 := w_43_1.2.2 (by omega); rw [show (44 : Int32).toInt = 44 from by decide +kernel] at h9; exact h9
            have qw_43_1s := g_tk_none qw_43_1
            refine lv_iconst (v := 0) hx hb dX6_readChoice_73 (by decide +kernel) ?_
            refine lv_istore_n (lv' := [(2, .int 0), (0, .ref (o + 209)), (1, .int 1)]) hx hb dX6_readChoice_74 rfl hl (by decide) rfl (fun ls hl => ?_)
            refine lv_aload_n hx hb dX6_readChoice_75 rfl (lv_at hl 1 rfl) ?_
            refine lv_bipush (v := (-9)) hx hb dX6_readChoice_76 (by decide +kernel) ?_
            refine dg_callv hS hA1 hA (va_runV (As := [.int (-9)]) (rest := []) F (c_rd_put l g D o S_43 (-9) en y_45 f_y_45 (by omega) y_35 ((m_43.1 209 7 _ sX_209 (by decide)).trans f_y_35) (by omega) ke ((congrFun ((m_43.2 211 _ sX_211 (by decide)).1.trans ((m_33.2 211 _ sX_211 (by decide)).1.trans ((m_23.2 211 _ sX_211 (by decide)).1.trans ((m_13.2 211 _ sX_211 (by decide)).1.trans ((m_4.2 211 _ sX_211 (by decide)).1.trans (m_1.2 211 _ sX_211 (by decide)).1))))) _).trans f_ke) (by omega) (by omega) I_43 H.size) (cwV 1 hts (bw_V wB_96 wB_97 wB_98 wB_24 wB_95) rfl rfl rfl (by decide +kernel) ⟨Nat.le_of_ble_eq_true rfl, Nat.le_of_ble_eq_true rfl⟩) (dg_preV sX_209 rfl K ST hP hS hA1 hA) rfl rfl hl.1 rfl (lv_room (Nat.le_of_ble_eq_true rfl)) dX6_readChoice_78 ⟨Nat.le_of_ble_eq_true rfl, Nat.le_of_ble_eq_true rfl⟩) (fun S_47 hw_47 H locs hP hS => ?_)
            obtain ⟨I_47, m_47, w_47_0, -⟩ := hw_47
            have M_47 := dg_sm.tr M_43 m_47 (by decide) (by decide)
            have hz_48 : (-9 : Int32).toInt = (-9) := by decide +kernel
            obtain ⟨y_49, f_y_49, w_47_0⟩ := w_47_0
            have w_47_0 : (y_35).toInt < 1600 → (y_49).toInt = (y_35).toInt + 1 := w_47_0
            have b_y_49 : 0 ≤ (y_49).toInt ∧ (y_49).toInt ≤ 1600 := dg_I.intb (lo := 0) (hi := 1600) I_47 sX_209 (by decide +kernel) f_y_49
            refine lv_iload_n hx hb dX6_readChoice_81 rfl (lv_at hl 0 rfl) ?_
            have hz_50 : (0 : Int32).toInt = 0 := by decide +kernel
            have hz_51 : (0 : Int32).toInt = 0 := by decide +kernel
            refine W.widen (k := 0) (n := 0) (Nat.le_of_ble_eq_true rfl) (Nat.le_of_ble_eq_true rfl) ?_
            exact dg_iret hx hb hr hlocks (by decide +kernel) hP hS ⟨I_47, M_47, (by decide +kernel), ⟨y_45, y_49, ((m_47.1 209 4 _ sX_209 (by decide)).trans f_y_45), f_y_49, ⟨⟨by omega, by omega⟩, g_ans.n (by omega) (by simp [x_choice, x_pair, g_tk, nq_y_2, qw_4_1s, nq_y_5, qw_13_1, qw_23_1s, nq_y_25, qw_33_1, qw_43_1s])⟩⟩, trivial⟩ dX6_readChoice_82
          · have jc_46 := dk_neqc (k := 0) (by decide +kernel) c_46
            have qw_43_1 : g_tk kd vl 44 (y_34 : Int32).toNatClampNeg = some (y_45 : Int32).toNatClampNeg := by have h9 := w_43_1.2.1 (by omega); rw [show (44 : Int32).toInt = 44 from by decide +kernel] at h9; exact h9
            have qw_43_1s := (g_tk_some qw_43_1).1
            have nq_y_45 : (y_45 : Int32).toNatClampNeg = (y_34 : Int32).toNatClampNeg + 1 := by have h9 := (g_tk_some qw_43_1).2; omega
            have ni_y_45 : (y_45).toInt = (y_34).toInt + 1 := by have h8 := dk_clN y_45; have h9 := dk_clN y_34; omega
            refine lv_aload_n hx hb dX6_readChoice_50 rfl (lv_at hl 0 rfl) ?_
            refine lv_iload_n hx hb dX6_readChoice_51 rfl (lv_at hl 1 rfl) ?_
            refine lv_iconst (v := 1) hx hb dX6_readChoice_52 (by decide +kernel) ?_
            refine lv_iadd hx hb dX6_readChoice_53 ?_
            refine dk_top (y := 2) (by decide +kernel) ?_
            refine dg_calli hS hA1 hA (va_runV (As := [.int 2]) (rest := []) F (c_rd_readSum_2 l g D o S_43 en kd vl y_45 f_y_45 (by omega) ru (((m_43.1 209 6 _ sX_209 (by decide)).trans ((m_33.1 209 6 _ sX_209 (by decide)).trans ((m_23.1 209 6 _ sX_209 (by decide)).trans ((m_13.1 209 6 _ sX_209 (by decide)).trans ((m_4.1 209 6 _ sX_209 (by decide)).trans (m_1.1 209 6 _ sX_209 (by decide))))))).trans f_ru) (by omega) y_35 ((m_43.1 209 7 _ sX_209 (by decide)).trans f_y_35) (by omega) ke ((congrFun ((m_43.2 211 _ sX_211 (by decide)).1.trans ((m_33.2 211 _ sX_211 (by decide)).1.trans ((m_23.2 211 _ sX_211 (by decide)).1.trans ((m_13.2 211 _ sX_211 (by decide)).1.trans ((m_4.2 211 _ sX_211 (by decide)).1.trans (m_1.2 211 _ sX_211 (by decide)).1))))) _).trans f_ke) (by omega) (by omega) (fun k9 h9 => (congrFun ((m_43.2 211 _ sX_211 (by decide)).1.trans ((m_33.2 211 _ sX_211 (by decide)).1.trans ((m_23.2 211 _ sX_211 (by decide)).1.trans ((m_13.2 211 _ sX_211 (by decide)).1.trans ((m_4.2 211 _ sX_211 (by decide)).1.trans (m_1.2 211 _ sX_211 (by decide)).1))))) k9).trans (hkd k9 h9)) (fun k9 h9 => (congrFun ((m_43.2 213 _ sX_213 (by decide)).1.trans ((m_33.2 213 _ sX_213 (by decide)).1.trans ((m_23.2 213 _ sX_213 (by decide)).1.trans ((m_13.2 213 _ sX_213 (by decide)).1.trans ((m_4.2 213 _ sX_213 (by decide)).1.trans (m_1.2 213 _ sX_213 (by decide)).1))))) k9).trans (hvl k9 h9)) (by omega) I_43 H.size) (cwV 1 hts (bw_V wB_128 wB_129 wB_130 wB_24 wB_127) rfl rfl rfl (by decide +kernel) ⟨Nat.le_of_ble_eq_true rfl, Nat.le_of_ble_eq_true rfl⟩) (dg_preV sX_209 rfl K ST hP hS hA1 hA) rfl rfl hl.1 rfl (lv_room (Nat.le_of_ble_eq_true rfl)) dX6_readChoice_54 ⟨Nat.le_of_ble_eq_true rfl, Nat.le_of_ble_eq_true rfl⟩) (fun x_52 S_53 hw_53 H locs hP hS => ?_)
            obtain ⟨I_53, m_53, w_53_0, w_53_1, -⟩ := hw_53
            have M_53 := dg_sm.tr M_43 m_53 (by decide) (by decide)
            have w_53_0 : 0 ≤ (x_52).toInt ∧ (x_52).toInt ≤ 1 := w_53_0
            obtain ⟨y_54, y_55, f_y_54, f_y_55, w_53_1⟩ := w_53_1
            have w_53_1 : ((y_54).toInt ≤ (en).toInt ∧ ((x_52).toInt = 1 → ((y_35).toInt + 1 ≤ (y_55).toInt ∧ (y_55).toInt - (y_35).toInt ≤ (y_54).toInt - (y_45).toInt))) ∧ g_ans x_52 ((x_lv kd vl (ru).toInt 6).1 (y_45 : Int32).toNatClampNeg) (y_54 : Int32).toNatClampNeg := w_53_1
            have b_y_54 : 0 ≤ (y_54).toInt ∧ (y_54).toInt ≤ 1600 := dg_I.intb (lo := 0) (hi := 1600) I_53 sX_209 (by decide +kernel) f_y_54
            have b_y_55 : 0 ≤ (y_55).toInt ∧ (y_55).toInt ≤ 1600 := dg_I.intb (lo := 0) (hi := 1600) I_53 sX_209 (by decide +kernel) f_y_55
            refine lv_if_eq (tgt := 73) hx hb dX6_readChoice_57 (by decide) (fun c_56 => ?_) (fun c_56 => ?_)
            · have jc_56 := dk_eqc (k := 0) (by decide +kernel) c_56
              have qw_53_1 : (x_lv kd vl (ru).toInt 6).1 ((y_34 : Int32).toNatClampNeg + 1) = none := by have h9 := w_53_1.2.2 (by omega); rw [nq_y_45] at h9; exact h9
              refine lv_iconst (v := 0) hx hb dX6_readChoice_73 (by decide +kernel) ?_
              refine lv_istore_n (lv' := [(2, .int 0), (0, .ref (o + 209)), (1, .int 1)]) hx hb dX6_readChoice_74 rfl hl (by decide) rfl (fun ls hl => ?_)
              refine lv_aload_n hx hb dX6_readChoice_75 rfl (lv_at hl 1 rfl) ?_
              refine lv_bipush (v := (-9)) hx hb dX6_readChoice_76 (by decide +kernel) ?_
              refine dg_callv hS hA1 hA (va_runV (As := [.int (-9)]) (rest := []) F (c_rd_put l g D o S_53 (-9) en y_54 f_y_54 (by omega) y_55 f_y_55 (by omega) ke ((congrFun ((m_53.2 211 _ sX_211 (by decide)).1.trans ((m_43.2 211 _ sX_211 (by decide)).1.trans ((m_33.2 211 _ sX_211 (by decide)).1.trans ((m_23.2 211 _ sX_211 (by decide)).1.trans ((m_13.2 211 _ sX_211 (by decide)).1.trans ((m_4.2 211 _ sX_211 (by decide)).1.trans (m_1.2 211 _ sX_211 (by decide)).1)))))) _).trans f_ke) (by omega) (by omega) I_53 H.size) (cwV 1 hts (bw_V wB_96 wB_97 wB_98 wB_24 wB_95) rfl rfl rfl (by decide +kernel) ⟨Nat.le_of_ble_eq_true rfl, Nat.le_of_ble_eq_true rfl⟩) (dg_preV sX_209 rfl K ST hP hS hA1 hA) rfl rfl hl.1 rfl (lv_room (Nat.le_of_ble_eq_true rfl)) dX6_readChoice_78 ⟨Nat.le_of_ble_eq_true rfl, Nat.le_of_ble_eq_true rfl⟩) (fun S_57 hw_57 H locs hP hS => ?_)
              obtain ⟨I_57, m_57, w_57_0, -⟩ := hw_57
              have M_57 := dg_sm.tr M_53 m_57 (by decide) (by decide)
              have hz_58 : (-9 : Int32).toInt = (-9) := by decide +kernel
              obtain ⟨y_59, f_y_59, w_57_0⟩ := w_57_0
              have w_57_0 : (y_55).toInt < 1600 → (y_59).toInt = (y_55).toInt + 1 := w_57_0
              have b_y_59 : 0 ≤ (y_59).toInt ∧ (y_59).toInt ≤ 1600 := dg_I.intb (lo := 0) (hi := 1600) I_57 sX_209 (by decide +kernel) f_y_59
              refine lv_iload_n hx hb dX6_readChoice_81 rfl (lv_at hl 0 rfl) ?_
              have hz_60 : (0 : Int32).toInt = 0 := by decide +kernel
              have hz_61 : (0 : Int32).toInt = 0 := by decide +kernel
              refine W.widen (k := 0) (n := 0) (Nat.le_of_ble_eq_true rfl) (Nat.le_of_ble_eq_true rfl) ?_
              exact dg_iret hx hb hr hlocks (by decide +kernel) hP hS ⟨I_57, M_57, (by decide +kernel), ⟨y_54, y_59, ((m_57.1 209 4 _ sX_209 (by decide)).trans f_y_54), f_y_59, ⟨⟨by omega, by omega⟩, g_ans.n (by omega) (by simp [x_choice, x_pair, g_tk, nq_y_2, qw_4_1s, nq_y_5, qw_13_1, qw_23_1s, nq_y_25, qw_33_1, qw_43_1s, nq_y_45, qw_53_1])⟩⟩, trivial⟩ dX6_readChoice_82
            · have jc_56 := dk_neqc (k := 0) (by decide +kernel) c_56
              have qw_53_1 : (x_lv kd vl (ru).toInt 6).1 ((y_34 : Int32).toNatClampNeg + 1) = some (y_54 : Int32).toNatClampNeg := by have h9 := w_53_1.2.1 (by omega); rw [nq_y_45] at h9; exact h9
              refine lv_aload_n hx hb dX6_readChoice_60 rfl (lv_at hl 0 rfl) ?_
              refine lv_bipush (v := 41) hx hb dX6_readChoice_61 (by decide +kernel) ?_
              refine dg_calli hS hA1 hA (va_runV (As := [.int 41]) (rest := []) F (c_rd_takeSign l g D o S_53 41 en kd vl y_54 f_y_54 (by omega) ke ((congrFun ((m_53.2 211 _ sX_211 (by decide)).1.trans ((m_43.2 211 _ sX_211 (by decide)).1.trans ((m_33.2 211 _ sX_211 (by decide)).1.trans ((m_23.2 211 _ sX_211 (by decide)).1.trans ((m_13.2 211 _ sX_211 (by decide)).1.trans ((m_4.2 211 _ sX_211 (by decide)).1.trans (m_1.2 211 _ sX_211 (by decide)).1)))))) _).trans f_ke) (by omega) (by omega) (fun k9 h9 => (congrFun ((m_53.2 211 _ sX_211 (by decide)).1.trans ((m_43.2 211 _ sX_211 (by decide)).1.trans ((m_33.2 211 _ sX_211 (by decide)).1.trans ((m_23.2 211 _ sX_211 (by decide)).1.trans ((m_13.2 211 _ sX_211 (by decide)).1.trans ((m_4.2 211 _ sX_211 (by decide)).1.trans (m_1.2 211 _ sX_211 (by decide)).1)))))) k9).trans (hkd k9 h9)) (fun k9 h9 => (congrFun ((m_53.2 213 _ sX_213 (by decide)).1.trans ((m_43.2 213 _ sX_213 (by decide)).1.trans ((m_33.2 213 _ sX_213 (by decide)).1.trans ((m_23.2 213 _ sX_213 (by decide)).1.trans ((m_13.2 213 _ sX_213 (by decide)).1.trans ((m_4.2 213 _ sX_213 (by decide)).1.trans (m_1.2 213 _ sX_213 (by decide)).1)))))) k9).trans (hvl k9 h9)) I_53 H.size) (cwV 1 hts (bw_V wB_152 wB_153 wB_154 wB_24 wB_151) rfl rfl rfl (by decide +kernel) ⟨Nat.le_of_ble_eq_true rfl, Nat.le_of_ble_eq_true rfl⟩) (dg_preV sX_209 rfl K ST hP hS hA1 hA) rfl rfl hl.1 rfl (lv_room (Nat.le_of_ble_eq_true rfl)) dX6_readChoice_63 ⟨Nat.le_of_ble_eq_true rfl, Nat.le_of_ble_eq_true rfl⟩) (fun x_62 S_63 hw_63 H locs hP hS => ?_)
              obtain ⟨I_63, m_63, w_63_0, w_63_1, -⟩ := hw_63
              have M_63 := dg_sm.tr M_53 m_63 (by decide) (by decide)
              have hz_64 : (41 : Int32).toInt = 41 := by decide +kernel
              have w_63_0 : 0 ≤ (x_62).toInt ∧ (x_62).toInt ≤ 1 := w_63_0
              obtain ⟨y_65, f_y_65, w_63_1⟩ := w_63_1
              have w_63_1 : (y_65).toInt ≤ (en).toInt ∧ g_ans x_62 (g_tk kd vl ((41 : Int32)).toInt (y_54 : Int32).toNatClampNeg) (y_65 : Int32).toNatClampNeg := w_63_1
              have b_y_65 : 0 ≤ (y_65).toInt ∧ (y_65).toInt ≤ 1600 := dg_I.intb (lo := 0) (hi := 1600) I_63 sX_209 (by decide +kernel) f_y_65
              refine lv_if_eq (tgt := 73) hx hb dX6_readChoice_66 (by decide) (fun c_66 => ?_) (fun c_66 => ?_)
              · have jc_66 := dk_eqc (k := 0) (by decide +kernel) c_66
                have qw_63_1 : g_tk kd vl 41 (y_54 : Int32).toNatClampNeg = none := by have h9 := w_63_1.2.2 (by omega); rw [show (41 : Int32).toInt = 41 from by decide +kernel] at h9; exact h9
                have qw_63_1s := g_tk_none qw_63_1
                refine lv_iconst (v := 0) hx hb dX6_readChoice_73 (by decide +kernel) ?_
                refine lv_istore_n (lv' := [(2, .int 0), (0, .ref (o + 209)), (1, .int 1)]) hx hb dX6_readChoice_74 rfl hl (by decide) rfl (fun ls hl => ?_)
                refine lv_aload_n hx hb dX6_readChoice_75 rfl (lv_at hl 1 rfl) ?_
                refine lv_bipush (v := (-9)) hx hb dX6_readChoice_76 (by decide +kernel) ?_
                refine dg_callv hS hA1 hA (va_runV (As := [.int (-9)]) (rest := []) F (c_rd_put l g D o S_63 (-9) en y_65 f_y_65 (by omega) y_55 ((m_63.1 209 7 _ sX_209 (by decide)).trans f_y_55) (by omega) ke ((congrFun ((m_63.2 211 _ sX_211 (by decide)).1.trans ((m_53.2 211 _ sX_211 (by decide)).1.trans ((m_43.2 211 _ sX_211 (by decide)).1.trans ((m_33.2 211 _ sX_211 (by decide)).1.trans ((m_23.2 211 _ sX_211 (by decide)).1.trans ((m_13.2 211 _ sX_211 (by decide)).1.trans ((m_4.2 211 _ sX_211 (by decide)).1.trans (m_1.2 211 _ sX_211 (by decide)).1))))))) _).trans f_ke) (by omega) (by omega) I_63 H.size) (cwV 1 hts (bw_V wB_96 wB_97 wB_98 wB_24 wB_95) rfl rfl rfl (by decide +kernel) ⟨Nat.le_of_ble_eq_true rfl, Nat.le_of_ble_eq_true rfl⟩) (dg_preV sX_209 rfl K ST hP hS hA1 hA) rfl rfl hl.1 rfl (lv_room (Nat.le_of_ble_eq_true rfl)) dX6_readChoice_78 ⟨Nat.le_of_ble_eq_true rfl, Nat.le_of_ble_eq_true rfl⟩) (fun S_67 hw_67 H locs hP hS => ?_)
                obtain ⟨I_67, m_67, w_67_0, -⟩ := hw_67
                have M_67 := dg_sm.tr M_63 m_67 (by decide) (by decide)
                have hz_68 : (-9 : Int32).toInt = (-9) := by decide +kernel
                obtain ⟨y_69, f_y_69, w_67_0⟩ := w_67_0
                have w_67_0 : (y_55).toInt < 1600 → (y_69).toInt = (y_55).toInt + 1 := w_67_0
                have b_y_69 : 0 ≤ (y_69).toInt ∧ (y_69).toInt ≤ 1600 := dg_I.intb (lo := 0) (hi := 1600) I_67 sX_209 (by decide +kernel) f_y_69
                refine lv_iload_n hx hb dX6_readChoice_81 rfl (lv_at hl 0 rfl) ?_
                have hz_70 : (0 : Int32).toInt = 0 := by decide +kernel
                have hz_71 : (0 : Int32).toInt = 0 := by decide +kernel
                refine W.widen (k := 0) (n := 0) (Nat.le_of_ble_eq_true rfl) (Nat.le_of_ble_eq_true rfl) ?_
                exact dg_iret hx hb hr hlocks (by decide +kernel) hP hS ⟨I_67, M_67, (by decide +kernel), ⟨y_65, y_69, ((m_67.1 209 4 _ sX_209 (by decide)).trans f_y_65), f_y_69, ⟨⟨by omega, by omega⟩, g_ans.n (by omega) (by simp [x_choice, x_pair, g_tk, nq_y_2, qw_4_1s, nq_y_5, qw_13_1, qw_23_1s, nq_y_25, qw_33_1, qw_43_1s, nq_y_45, qw_53_1, qw_63_1s])⟩⟩, trivial⟩ dX6_readChoice_82
              · have jc_66 := dk_neqc (k := 0) (by decide +kernel) c_66
                have qw_63_1 : g_tk kd vl 41 (y_54 : Int32).toNatClampNeg = some (y_65 : Int32).toNatClampNeg := by have h9 := w_63_1.2.1 (by omega); rw [show (41 : Int32).toInt = 41 from by decide +kernel] at h9; exact h9
                have qw_63_1s := (g_tk_some qw_63_1).1
                have nq_y_65 : (y_65 : Int32).toNatClampNeg = (y_54 : Int32).toNatClampNeg + 1 := by have h9 := (g_tk_some qw_63_1).2; omega
                have ni_y_65 : (y_65).toInt = (y_54).toInt + 1 := by have h8 := dk_clN y_65; have h9 := dk_clN y_54; omega
                refine lv_iconst (v := 1) hx hb dX6_readChoice_69 (by decide +kernel) ?_
                refine lv_goto (tgt := 74) hx hb dX6_readChoice_70 (by decide) ?_
                refine lv_istore_n (lv' := [(2, .int 1), (0, .ref (o + 209)), (1, .int 1)]) hx hb dX6_readChoice_74 rfl hl (by decide) rfl (fun ls hl => ?_)
                refine lv_aload_n hx hb dX6_readChoice_75 rfl (lv_at hl 1 rfl) ?_
                refine lv_bipush (v := (-9)) hx hb dX6_readChoice_76 (by decide +kernel) ?_
                refine dg_callv hS hA1 hA (va_runV (As := [.int (-9)]) (rest := []) F (c_rd_put l g D o S_63 (-9) en y_65 f_y_65 (by omega) y_55 ((m_63.1 209 7 _ sX_209 (by decide)).trans f_y_55) (by omega) ke ((congrFun ((m_63.2 211 _ sX_211 (by decide)).1.trans ((m_53.2 211 _ sX_211 (by decide)).1.trans ((m_43.2 211 _ sX_211 (by decide)).1.trans ((m_33.2 211 _ sX_211 (by decide)).1.trans ((m_23.2 211 _ sX_211 (by decide)).1.trans ((m_13.2 211 _ sX_211 (by decide)).1.trans ((m_4.2 211 _ sX_211 (by decide)).1.trans (m_1.2 211 _ sX_211 (by decide)).1))))))) _).trans f_ke) (by omega) (by omega) I_63 H.size) (cwV 1 hts (bw_V wB_96 wB_97 wB_98 wB_24 wB_95) rfl rfl rfl (by decide +kernel) ⟨Nat.le_of_ble_eq_true rfl, Nat.le_of_ble_eq_true rfl⟩) (dg_preV sX_209 rfl K ST hP hS hA1 hA) rfl rfl hl.1 rfl (lv_room (Nat.le_of_ble_eq_true rfl)) dX6_readChoice_78 ⟨Nat.le_of_ble_eq_true rfl, Nat.le_of_ble_eq_true rfl⟩) (fun S_72 hw_72 H locs hP hS => ?_)
                obtain ⟨I_72, m_72, w_72_0, -⟩ := hw_72
                have M_72 := dg_sm.tr M_63 m_72 (by decide) (by decide)
                have hz_73 : (-9 : Int32).toInt = (-9) := by decide +kernel
                obtain ⟨y_74, f_y_74, w_72_0⟩ := w_72_0
                have w_72_0 : (y_55).toInt < 1600 → (y_74).toInt = (y_55).toInt + 1 := w_72_0
                have b_y_74 : 0 ≤ (y_74).toInt ∧ (y_74).toInt ≤ 1600 := dg_I.intb (lo := 0) (hi := 1600) I_72 sX_209 (by decide +kernel) f_y_74
                refine lv_iload_n hx hb dX6_readChoice_81 rfl (lv_at hl 0 rfl) ?_
                have hz_75 : (1 : Int32).toInt = 1 := by decide +kernel
                have hz_76 : (1 : Int32).toInt = 1 := by decide +kernel
                refine W.widen (k := 0) (n := 0) (Nat.le_of_ble_eq_true rfl) (Nat.le_of_ble_eq_true rfl) ?_
                exact dg_iret hx hb hr hlocks (by decide +kernel) hP hS ⟨I_72, M_72, (by decide +kernel), ⟨y_65, y_74, ((m_72.1 209 4 _ sX_209 (by decide)).trans f_y_65), f_y_74, ⟨⟨by omega, by omega⟩, g_ans.y (by omega) (by simp [x_choice, x_pair, g_tk, nq_y_2, qw_4_1s, nq_y_5, qw_13_1, qw_23_1s, nq_y_25, qw_33_1, qw_43_1s, nq_y_45, qw_53_1, qw_63_1s, nq_y_65])⟩⟩, trivial⟩ dX6_readChoice_82
set_option maxHeartbeats 8000000 in
set_option maxRecDepth 100000 in
theorem c_rd_readPair_1 (l : Launch) (g : Nat → ClassId) (D : va_G) (o : Nat) (S : dg_S) (a2 : Int32) (en : Int32) (kd : Nat → Int32) (vl : Nat → Int32) (n0 : Int32) (f_n0 : S.1 209 4 = .int n0) (b_n0 : 0 ≤ (n0).toInt ∧ (n0).toInt ≤ 1600) (ru : Int32) (f_ru : S.1 209 6 = .int ru) (b_ru : 0 ≤ (ru).toInt ∧ (ru).toInt ≤ 2) (sc : Int32) (f_sc : S.1 209 7 = .int sc) (b_sc : 0 ≤ (sc).toInt ∧ (sc).toInt ≤ 1600) (ke : Int32) (f_ke : S.2.1 211 (en : Int32).toNatClampNeg = ke) (b_ke : 0 ≤ (ke).toInt ∧ (ke).toInt ≤ 0) (hne : (n0).toInt ≤ (en).toInt ∧ (en).toInt ≤ 1600 ∧ 0 ≤ (en).toInt) (hkd : ∀ k9 : Nat, k9 ≤ (en : Int32).toNatClampNeg → S.2.1 211 k9 = kd k9) (hvl : ∀ k9 : Nat, k9 ≤ (en : Int32).toNatClampNeg → S.2.1 213 k9 = vl k9) (hsc : (sc).toInt ≤ (n0).toInt) (hkn : (kd (n0 : Int32).toNatClampNeg).toInt ≠ 0) (I : CX o S) (sz : Nat) : Met l yX6_readPair (bw yX6_readPair cX6_readPair 4 (some .boolean)) ({ frames := 48, cells := 0, slots := 0, locals := 1104 } : Room) (dk_Pc g D (dg_w g shX o rfX S) sz [.ref (o + 209), .int 1, .int a2]) (va_Qi (fun (r : Int32) S' => CX o S' ∧ dg_sm shX [(31, 0), (31, 1), (31, 4), (31, 7)] [28] S S' ∧ (0 ≤ (r).toInt ∧ (r).toInt ≤ 1) ∧ (∃ y9_4 y9_7 : Int32, S'.1 209 4 = .int y9_4 ∧ S'.1 209 7 = .int y9_7 ∧ (((y9_4).toInt ≤ (en).toInt ∧ ((r).toInt = 1 → ((sc).toInt + 1 ≤ (y9_7).toInt ∧ (y9_7).toInt - (sc).toInt ≤ (y9_4).toInt - (n0).toInt))) ∧ g_ans r (x_prs kd vl (x_lv kd vl (ru).toInt 6).1 (n0 : Int32).toNatClampNeg) (y9_4 : Int32).toNatClampNeg)) ∧ True) (dg_B g D shX o rfX) (dg_A o shX.length sz)) 0 0 (dg_A o shX.length sz) := by
  refine dg_met (cc := cX6_readPair) (maxL := 4) (ret := (some .boolean)) (by decide) rfl (Nat.le_of_ble_eq_true rfl) ?_
  intro p e s m args below meth c A hAe harg hx hb hr hml hts hown hlocks hin hP K hS hA1 hA ST hsz ls hl
  rw [← hAe]
  have F : CallFix p m c cX6_readPair 4 s args (bw yX6_readPair cX6_readPair 4 (some .boolean)) RX6 := ⟨hx, hb, hml, hown, hts⟩
  have hl : lv_has ls 4 [(0, .ref (o + 209)), (1, .int 1), (2, .int a2)] := hl
  have M_0 : dg_sm shX [(31, 0), (31, 1), (31, 4), (31, 7)] [28] S S := dg_sm.rf
  refine lv_aload_n hx hb dX6_readPair_0 rfl (lv_at hl 0 rfl) ?_
  refine dg_callv hS hA1 hA (va_runV (As := []) (rest := []) F (c_rd_pass l g D o S en kd vl n0 f_n0 (by omega) ke f_ke (by omega) (by omega) hkd hvl I s.heap.size) (cwV 0 hts (bw_V wB_26 wB_27 wB_28 wB_24 wB_25) rfl rfl rfl (by decide +kernel) ⟨Nat.le_of_ble_eq_true rfl, Nat.le_of_ble_eq_true rfl⟩) (dg_preV sX_209 rfl K ST hP hS hA1 hA) rfl rfl hl.1 rfl (lv_room (Nat.le_of_ble_eq_true rfl)) dX6_readPair_1 ⟨Nat.le_of_ble_eq_true rfl, Nat.le_of_ble_eq_true rfl⟩) (fun S_1 hw_1 H locs hP hS => ?_)
  obtain ⟨I_1, m_1, w_1_0, -⟩ := hw_1
  have M_1 := dg_sm.tr M_0 m_1 (by decide) (by decide)
  obtain ⟨y_2, f_y_2, w_1_0⟩ := w_1_0
  have w_1_0 : (y_2).toInt ≤ (en).toInt ∧ ((kd (n0 : Int32).toNatClampNeg).toInt ≠ 0 → (y_2 : Int32).toNatClampNeg = (n0 : Int32).toNatClampNeg + 1) := w_1_0
  have b_y_2 : 0 ≤ (y_2).toInt ∧ (y_2).toInt ≤ 1600 := dg_I.intb (lo := 0) (hi := 1600) I_1 sX_209 (by decide +kernel) f_y_2
  have nq_y_2 : (y_2 : Int32).toNatClampNeg = (n0 : Int32).toNatClampNeg + 1 := by have h9 := w_1_0.2 hkn; omega
  have ni_y_2 : (y_2).toInt = (n0).toInt + 1 := by have h8 := dk_clN y_2; have h9 := dk_clN n0; omega
  refine lv_aload_n hx hb dX6_readPair_4 rfl (lv_at hl 0 rfl) ?_
  refine lv_iload_n hx hb dX6_readPair_5 rfl (lv_at hl 1 rfl) ?_
  refine dg_calli hS hA1 hA (va_runV (As := [.int 1]) (rest := []) F (c_rd_takeOpening_1 l g D o S_1 en kd vl y_2 f_y_2 (by omega) ke ((congrFun (m_1.2 211 _ sX_211 (by decide)).1 _).trans f_ke) (by omega) (by omega) (fun k9 h9 => (congrFun (m_1.2 211 _ sX_211 (by decide)).1 k9).trans (hkd k9 h9)) (fun k9 h9 => (congrFun (m_1.2 213 _ sX_213 (by decide)).1 k9).trans (hvl k9 h9)) I_1 H.size) (cwV 1 hts (bw_V wB_92 wB_93 wB_94 wB_24 wB_91) rfl rfl rfl (by decide +kernel) ⟨Nat.le_of_ble_eq_true rfl, Nat.le_of_ble_eq_true rfl⟩) (dg_preV sX_209 rfl K ST hP hS hA1 hA) rfl rfl hl.1 rfl (lv_room (Nat.le_of_ble_eq_true rfl)) dX6_readPair_6 ⟨Nat.le_of_ble_eq_true rfl, Nat.le_of_ble_eq_true rfl⟩) (fun x_3 S_4 hw_4 H locs hP hS => ?_)
  obtain ⟨I_4, m_4, w_4_0, w_4_1, -⟩ := hw_4
  have M_4 := dg_sm.tr M_1 m_4 (by decide) (by decide)
  have w_4_0 : 0 ≤ (x_3).toInt ∧ (x_3).toInt ≤ 1 := w_4_0
  obtain ⟨y_5, f_y_5, w_4_1⟩ := w_4_1
  have w_4_1 : (y_5).toInt ≤ (en).toInt ∧ g_ans x_3 (g_tk kd vl 40 (y_2 : Int32).toNatClampNeg) (y_5 : Int32).toNatClampNeg := w_4_1
  have b_y_5 : 0 ≤ (y_5).toInt ∧ (y_5).toInt ≤ 1600 := dg_I.intb (lo := 0) (hi := 1600) I_4 sX_209 (by decide +kernel) f_y_5
  refine lv_if_eq (tgt := 54) hx hb dX6_readPair_9 (by decide) (fun c_6 => ?_) (fun c_6 => ?_)
  · have jc_6 := dk_eqc (k := 0) (by decide +kernel) c_6
    have qw_4_1 : g_tk kd vl 40 ((n0 : Int32).toNatClampNeg + 1) = none := by have h9 := w_4_1.2.2 (by omega); rw [nq_y_2] at h9; exact h9
    have qw_4_1s := g_tk_none qw_4_1
    refine lv_iconst (v := 0) hx hb dX6_readPair_54 (by decide +kernel) ?_
    refine lv_istore_n (lv' := [(3, .int 0), (0, .ref (o + 209)), (1, .int 1), (2, .int a2)]) hx hb dX6_readPair_55 rfl hl (by decide) rfl (fun ls hl => ?_)
    refine lv_aload_n hx hb dX6_readPair_56 rfl (lv_at hl 1 rfl) ?_
    refine lv_iload_n hx hb dX6_readPair_57 rfl (lv_at hl 3 rfl) ?_
    refine dg_callv hS hA1 hA (va_runV (As := [.int a2]) (rest := []) F (c_rd_put l g D o S_4 a2 en y_5 f_y_5 (by omega) sc (((m_4.1 209 7 _ sX_209 (by decide)).trans (m_1.1 209 7 _ sX_209 (by decide))).trans f_sc) (by omega) ke ((congrFun ((m_4.2 211 _ sX_211 (by decide)).1.trans (m_1.2 211 _ sX_211 (by decide)).1) _).trans f_ke) (by omega) (by omega) I_4 H.size) (cwV 1 hts (bw_V wB_96 wB_97 wB_98 wB_24 wB_95) rfl rfl rfl (by decide +kernel) ⟨Nat.le_of_ble_eq_true rfl, Nat.le_of_ble_eq_true rfl⟩) (dg_preV sX_209 rfl K ST hP hS hA1 hA) rfl rfl hl.1 rfl (lv_room (Nat.le_of_ble_eq_true rfl)) dX6_readPair_58 ⟨Nat.le_of_ble_eq_true rfl, Nat.le_of_ble_eq_true rfl⟩) (fun S_7 hw_7 H locs hP hS => ?_)
    obtain ⟨I_7, m_7, w_7_0, -⟩ := hw_7
    have M_7 := dg_sm.tr M_4 m_7 (by decide) (by decide)
    obtain ⟨y_8, f_y_8, w_7_0⟩ := w_7_0
    have w_7_0 : (sc).toInt < 1600 → (y_8).toInt = (sc).toInt + 1 := w_7_0
    have b_y_8 : 0 ≤ (y_8).toInt ∧ (y_8).toInt ≤ 1600 := dg_I.intb (lo := 0) (hi := 1600) I_7 sX_209 (by decide +kernel) f_y_8
    refine lv_iload_n hx hb dX6_readPair_61 rfl (lv_at hl 0 rfl) ?_
    have hz_9 : (0 : Int32).toInt = 0 := by decide +kernel
    have hz_10 : (0 : Int32).toInt = 0 := by decide +kernel
    refine W.widen (k := 0) (n := 0) (Nat.le_of_ble_eq_true rfl) (Nat.le_of_ble_eq_true rfl) ?_
    exact dg_iret hx hb hr hlocks (by decide +kernel) hP hS ⟨I_7, M_7, (by decide +kernel), ⟨y_5, y_8, ((m_7.1 209 4 _ sX_209 (by decide)).trans f_y_5), f_y_8, ⟨⟨by omega, by omega⟩, g_ans.n (by omega) (by simp [x_prs, x_pair, g_tk, nq_y_2, qw_4_1s])⟩⟩, trivial⟩ dX6_readPair_62
  · have jc_6 := dk_neqc (k := 0) (by decide +kernel) c_6
    have qw_4_1 : g_tk kd vl 40 ((n0 : Int32).toNatClampNeg + 1) = some (y_5 : Int32).toNatClampNeg := by have h9 := w_4_1.2.1 (by omega); rw [nq_y_2] at h9; exact h9
    have qw_4_1s := (g_tk_some qw_4_1).1
    have nq_y_5 : (y_5 : Int32).toNatClampNeg = (n0 : Int32).toNatClampNeg + 2 := by have h9 := (g_tk_some qw_4_1).2; omega
    have ni_y_5 : (y_5).toInt = (n0).toInt + 2 := by have h8 := dk_clN y_5; have h9 := dk_clN n0; omega
    refine lv_aload_n hx hb dX6_readPair_12 rfl (lv_at hl 0 rfl) ?_
    refine lv_iload_n hx hb dX6_readPair_13 rfl (lv_at hl 1 rfl) ?_
    refine lv_iconst (v := 1) hx hb dX6_readPair_14 (by decide +kernel) ?_
    refine lv_iadd hx hb dX6_readPair_15 ?_
    refine dk_top (y := 2) (by decide +kernel) ?_
    refine dg_calli hS hA1 hA (va_runV (As := [.int 2]) (rest := []) F (c_rd_readSum_2 l g D o S_4 en kd vl y_5 f_y_5 (by omega) ru (((m_4.1 209 6 _ sX_209 (by decide)).trans (m_1.1 209 6 _ sX_209 (by decide))).trans f_ru) (by omega) sc (((m_4.1 209 7 _ sX_209 (by decide)).trans (m_1.1 209 7 _ sX_209 (by decide))).trans f_sc) (by omega) ke ((congrFun ((m_4.2 211 _ sX_211 (by decide)).1.trans (m_1.2 211 _ sX_211 (by decide)).1) _).trans f_ke) (by omega) (by omega) (fun k9 h9 => (congrFun ((m_4.2 211 _ sX_211 (by decide)).1.trans (m_1.2 211 _ sX_211 (by decide)).1) k9).trans (hkd k9 h9)) (fun k9 h9 => (congrFun ((m_4.2 213 _ sX_213 (by decide)).1.trans (m_1.2 213 _ sX_213 (by decide)).1) k9).trans (hvl k9 h9)) (by omega) I_4 H.size) (cwV 1 hts (bw_V wB_128 wB_129 wB_130 wB_24 wB_127) rfl rfl rfl (by decide +kernel) ⟨Nat.le_of_ble_eq_true rfl, Nat.le_of_ble_eq_true rfl⟩) (dg_preV sX_209 rfl K ST hP hS hA1 hA) rfl rfl hl.1 rfl (lv_room (Nat.le_of_ble_eq_true rfl)) dX6_readPair_16 ⟨Nat.le_of_ble_eq_true rfl, Nat.le_of_ble_eq_true rfl⟩) (fun x_11 S_12 hw_12 H locs hP hS => ?_)
    obtain ⟨I_12, m_12, w_12_0, w_12_1, -⟩ := hw_12
    have M_12 := dg_sm.tr M_4 m_12 (by decide) (by decide)
    have w_12_0 : 0 ≤ (x_11).toInt ∧ (x_11).toInt ≤ 1 := w_12_0
    obtain ⟨y_13, y_14, f_y_13, f_y_14, w_12_1⟩ := w_12_1
    have w_12_1 : ((y_13).toInt ≤ (en).toInt ∧ ((x_11).toInt = 1 → ((sc).toInt + 1 ≤ (y_14).toInt ∧ (y_14).toInt - (sc).toInt ≤ (y_13).toInt - (y_5).toInt))) ∧ g_ans x_11 ((x_lv kd vl (ru).toInt 6).1 (y_5 : Int32).toNatClampNeg) (y_13 : Int32).toNatClampNeg := w_12_1
    have b_y_13 : 0 ≤ (y_13).toInt ∧ (y_13).toInt ≤ 1600 := dg_I.intb (lo := 0) (hi := 1600) I_12 sX_209 (by decide +kernel) f_y_13
    have b_y_14 : 0 ≤ (y_14).toInt ∧ (y_14).toInt ≤ 1600 := dg_I.intb (lo := 0) (hi := 1600) I_12 sX_209 (by decide +kernel) f_y_14
    refine lv_if_eq (tgt := 54) hx hb dX6_readPair_19 (by decide) (fun c_15 => ?_) (fun c_15 => ?_)
    · have jc_15 := dk_eqc (k := 0) (by decide +kernel) c_15
      have qw_12_1 : (x_lv kd vl (ru).toInt 6).1 ((n0 : Int32).toNatClampNeg + 2) = none := by have h9 := w_12_1.2.2 (by omega); rw [nq_y_5] at h9; exact h9
      refine lv_iconst (v := 0) hx hb dX6_readPair_54 (by decide +kernel) ?_
      refine lv_istore_n (lv' := [(3, .int 0), (0, .ref (o + 209)), (1, .int 1), (2, .int a2)]) hx hb dX6_readPair_55 rfl hl (by decide) rfl (fun ls hl => ?_)
      refine lv_aload_n hx hb dX6_readPair_56 rfl (lv_at hl 1 rfl) ?_
      refine lv_iload_n hx hb dX6_readPair_57 rfl (lv_at hl 3 rfl) ?_
      refine dg_callv hS hA1 hA (va_runV (As := [.int a2]) (rest := []) F (c_rd_put l g D o S_12 a2 en y_13 f_y_13 (by omega) y_14 f_y_14 (by omega) ke ((congrFun ((m_12.2 211 _ sX_211 (by decide)).1.trans ((m_4.2 211 _ sX_211 (by decide)).1.trans (m_1.2 211 _ sX_211 (by decide)).1)) _).trans f_ke) (by omega) (by omega) I_12 H.size) (cwV 1 hts (bw_V wB_96 wB_97 wB_98 wB_24 wB_95) rfl rfl rfl (by decide +kernel) ⟨Nat.le_of_ble_eq_true rfl, Nat.le_of_ble_eq_true rfl⟩) (dg_preV sX_209 rfl K ST hP hS hA1 hA) rfl rfl hl.1 rfl (lv_room (Nat.le_of_ble_eq_true rfl)) dX6_readPair_58 ⟨Nat.le_of_ble_eq_true rfl, Nat.le_of_ble_eq_true rfl⟩) (fun S_16 hw_16 H locs hP hS => ?_)
      obtain ⟨I_16, m_16, w_16_0, -⟩ := hw_16
      have M_16 := dg_sm.tr M_12 m_16 (by decide) (by decide)
      obtain ⟨y_17, f_y_17, w_16_0⟩ := w_16_0
      have w_16_0 : (y_14).toInt < 1600 → (y_17).toInt = (y_14).toInt + 1 := w_16_0
      have b_y_17 : 0 ≤ (y_17).toInt ∧ (y_17).toInt ≤ 1600 := dg_I.intb (lo := 0) (hi := 1600) I_16 sX_209 (by decide +kernel) f_y_17
      refine lv_iload_n hx hb dX6_readPair_61 rfl (lv_at hl 0 rfl) ?_
      have hz_18 : (0 : Int32).toInt = 0 := by decide +kernel
      have hz_19 : (0 : Int32).toInt = 0 := by decide +kernel
      refine W.widen (k := 0) (n := 0) (Nat.le_of_ble_eq_true rfl) (Nat.le_of_ble_eq_true rfl) ?_
      exact dg_iret hx hb hr hlocks (by decide +kernel) hP hS ⟨I_16, M_16, (by decide +kernel), ⟨y_13, y_17, ((m_16.1 209 4 _ sX_209 (by decide)).trans f_y_13), f_y_17, ⟨⟨by omega, by omega⟩, g_ans.n (by omega) (by simp [x_prs, x_pair, g_tk, nq_y_2, qw_4_1s, nq_y_5, qw_12_1])⟩⟩, trivial⟩ dX6_readPair_62
    · have jc_15 := dk_neqc (k := 0) (by decide +kernel) c_15
      have qw_12_1 : (x_lv kd vl (ru).toInt 6).1 ((n0 : Int32).toNatClampNeg + 2) = some (y_13 : Int32).toNatClampNeg := by have h9 := w_12_1.2.1 (by omega); rw [nq_y_5] at h9; exact h9
      refine lv_aload_n hx hb dX6_readPair_22 rfl (lv_at hl 0 rfl) ?_
      refine lv_bipush (v := 44) hx hb dX6_readPair_23 (by decide +kernel) ?_
      refine dg_calli hS hA1 hA (va_runV (As := [.int 44]) (rest := []) F (c_rd_takeSign l g D o S_12 44 en kd vl y_13 f_y_13 (by omega) ke ((congrFun ((m_12.2 211 _ sX_211 (by decide)).1.trans ((m_4.2 211 _ sX_211 (by decide)).1.trans (m_1.2 211 _ sX_211 (by decide)).1)) _).trans f_ke) (by omega) (by omega) (fun k9 h9 => (congrFun ((m_12.2 211 _ sX_211 (by decide)).1.trans ((m_4.2 211 _ sX_211 (by decide)).1.trans (m_1.2 211 _ sX_211 (by decide)).1)) k9).trans (hkd k9 h9)) (fun k9 h9 => (congrFun ((m_12.2 213 _ sX_213 (by decide)).1.trans ((m_4.2 213 _ sX_213 (by decide)).1.trans (m_1.2 213 _ sX_213 (by decide)).1)) k9).trans (hvl k9 h9)) I_12 H.size) (cwV 1 hts (bw_V wB_152 wB_153 wB_154 wB_24 wB_151) rfl rfl rfl (by decide +kernel) ⟨Nat.le_of_ble_eq_true rfl, Nat.le_of_ble_eq_true rfl⟩) (dg_preV sX_209 rfl K ST hP hS hA1 hA) rfl rfl hl.1 rfl (lv_room (Nat.le_of_ble_eq_true rfl)) dX6_readPair_25 ⟨Nat.le_of_ble_eq_true rfl, Nat.le_of_ble_eq_true rfl⟩) (fun x_20 S_21 hw_21 H locs hP hS => ?_)
      obtain ⟨I_21, m_21, w_21_0, w_21_1, -⟩ := hw_21
      have M_21 := dg_sm.tr M_12 m_21 (by decide) (by decide)
      have hz_22 : (44 : Int32).toInt = 44 := by decide +kernel
      have w_21_0 : 0 ≤ (x_20).toInt ∧ (x_20).toInt ≤ 1 := w_21_0
      obtain ⟨y_23, f_y_23, w_21_1⟩ := w_21_1
      have w_21_1 : (y_23).toInt ≤ (en).toInt ∧ g_ans x_20 (g_tk kd vl ((44 : Int32)).toInt (y_13 : Int32).toNatClampNeg) (y_23 : Int32).toNatClampNeg := w_21_1
      have b_y_23 : 0 ≤ (y_23).toInt ∧ (y_23).toInt ≤ 1600 := dg_I.intb (lo := 0) (hi := 1600) I_21 sX_209 (by decide +kernel) f_y_23
      refine lv_if_eq (tgt := 54) hx hb dX6_readPair_28 (by decide) (fun c_24 => ?_) (fun c_24 => ?_)
      · have jc_24 := dk_eqc (k := 0) (by decide +kernel) c_24
        have qw_21_1 : g_tk kd vl 44 (y_13 : Int32).toNatClampNeg = none := by have h9 := w_21_1.2.2 (by omega); rw [show (44 : Int32).toInt = 44 from by decide +kernel] at h9; exact h9
        have qw_21_1s := g_tk_none qw_21_1
        refine lv_iconst (v := 0) hx hb dX6_readPair_54 (by decide +kernel) ?_
        refine lv_istore_n (lv' := [(3, .int 0), (0, .ref (o + 209)), (1, .int 1), (2, .int a2)]) hx hb dX6_readPair_55 rfl hl (by decide) rfl (fun ls hl => ?_)
        refine lv_aload_n hx hb dX6_readPair_56 rfl (lv_at hl 1 rfl) ?_
        refine lv_iload_n hx hb dX6_readPair_57 rfl (lv_at hl 3 rfl) ?_
        refine dg_callv hS hA1 hA (va_runV (As := [.int a2]) (rest := []) F (c_rd_put l g D o S_21 a2 en y_23 f_y_23 (by omega) y_14 ((m_21.1 209 7 _ sX_209 (by decide)).trans f_y_14) (by omega) ke ((congrFun ((m_21.2 211 _ sX_211 (by decide)).1.trans ((m_12.2 211 _ sX_211 (by decide)).1.trans ((m_4.2 211 _ sX_211 (by decide)).1.trans (m_1.2 211 _ sX_211 (by decide)).1))) _).trans f_ke) (by omega) (by omega) I_21 H.size) (cwV 1 hts (bw_V wB_96 wB_97 wB_98 wB_24 wB_95) rfl rfl rfl (by decide +kernel) ⟨Nat.le_of_ble_eq_true rfl, Nat.le_of_ble_eq_true rfl⟩) (dg_preV sX_209 rfl K ST hP hS hA1 hA) rfl rfl hl.1 rfl (lv_room (Nat.le_of_ble_eq_true rfl)) dX6_readPair_58 ⟨Nat.le_of_ble_eq_true rfl, Nat.le_of_ble_eq_true rfl⟩) (fun S_25 hw_25 H locs hP hS => ?_)
        obtain ⟨I_25, m_25, w_25_0, -⟩ := hw_25
        have M_25 := dg_sm.tr M_21 m_25 (by decide) (by decide)
        obtain ⟨y_26, f_y_26, w_25_0⟩ := w_25_0
        have w_25_0 : (y_14).toInt < 1600 → (y_26).toInt = (y_14).toInt + 1 := w_25_0
        have b_y_26 : 0 ≤ (y_26).toInt ∧ (y_26).toInt ≤ 1600 := dg_I.intb (lo := 0) (hi := 1600) I_25 sX_209 (by decide +kernel) f_y_26
        refine lv_iload_n hx hb dX6_readPair_61 rfl (lv_at hl 0 rfl) ?_
        have hz_27 : (0 : Int32).toInt = 0 := by decide +kernel
        have hz_28 : (0 : Int32).toInt = 0 := by decide +kernel
        refine W.widen (k := 0) (n := 0) (Nat.le_of_ble_eq_true rfl) (Nat.le_of_ble_eq_true rfl) ?_
        exact dg_iret hx hb hr hlocks (by decide +kernel) hP hS ⟨I_25, M_25, (by decide +kernel), ⟨y_23, y_26, ((m_25.1 209 4 _ sX_209 (by decide)).trans f_y_23), f_y_26, ⟨⟨by omega, by omega⟩, g_ans.n (by omega) (by simp [x_prs, x_pair, g_tk, nq_y_2, qw_4_1s, nq_y_5, qw_12_1, qw_21_1s])⟩⟩, trivial⟩ dX6_readPair_62
      · have jc_24 := dk_neqc (k := 0) (by decide +kernel) c_24
        have qw_21_1 : g_tk kd vl 44 (y_13 : Int32).toNatClampNeg = some (y_23 : Int32).toNatClampNeg := by have h9 := w_21_1.2.1 (by omega); rw [show (44 : Int32).toInt = 44 from by decide +kernel] at h9; exact h9
        have qw_21_1s := (g_tk_some qw_21_1).1
        have nq_y_23 : (y_23 : Int32).toNatClampNeg = (y_13 : Int32).toNatClampNeg + 1 := by have h9 := (g_tk_some qw_21_1).2; omega
        have ni_y_23 : (y_23).toInt = (y_13).toInt + 1 := by have h8 := dk_clN y_23; have h9 := dk_clN y_13; omega
        refine lv_aload_n hx hb dX6_readPair_31 rfl (lv_at hl 0 rfl) ?_
        refine lv_iload_n hx hb dX6_readPair_32 rfl (lv_at hl 1 rfl) ?_
        refine lv_iconst (v := 1) hx hb dX6_readPair_33 (by decide +kernel) ?_
        refine lv_iadd hx hb dX6_readPair_34 ?_
        refine dk_top (y := 2) (by decide +kernel) ?_
        refine dg_calli hS hA1 hA (va_runV (As := [.int 2]) (rest := []) F (c_rd_readSum_2 l g D o S_21 en kd vl y_23 f_y_23 (by omega) ru (((m_21.1 209 6 _ sX_209 (by decide)).trans ((m_12.1 209 6 _ sX_209 (by decide)).trans ((m_4.1 209 6 _ sX_209 (by decide)).trans (m_1.1 209 6 _ sX_209 (by decide))))).trans f_ru) (by omega) y_14 ((m_21.1 209 7 _ sX_209 (by decide)).trans f_y_14) (by omega) ke ((congrFun ((m_21.2 211 _ sX_211 (by decide)).1.trans ((m_12.2 211 _ sX_211 (by decide)).1.trans ((m_4.2 211 _ sX_211 (by decide)).1.trans (m_1.2 211 _ sX_211 (by decide)).1))) _).trans f_ke) (by omega) (by omega) (fun k9 h9 => (congrFun ((m_21.2 211 _ sX_211 (by decide)).1.trans ((m_12.2 211 _ sX_211 (by decide)).1.trans ((m_4.2 211 _ sX_211 (by decide)).1.trans (m_1.2 211 _ sX_211 (by decide)).1))) k9).trans (hkd k9 h9)) (fun k9 h9 => (congrFun ((m_21.2 213 _ sX_213 (by decide)).1.trans ((m_12.2 213 _ sX_213 (by decide)).1.trans ((m_4.2 213 _ sX_213 (by decide)).1.trans (m_1.2 213 _ sX_213 (by decide)).1))) k9).trans (hvl k9 h9)) (by omega) I_21 H.size) (cwV 1 hts (bw_V wB_128 wB_129 wB_130 wB_24 wB_127) rfl rfl rfl (by decide +kernel) ⟨Nat.le_of_ble_eq_true rfl, Nat.le_of_ble_eq_true rfl⟩) (dg_preV sX_209 rfl K ST hP hS hA1 hA) rfl rfl hl.1 rfl (lv_room (Nat.le_of_ble_eq_true rfl)) dX6_readPair_35 ⟨Nat.le_of_ble_eq_true rfl, Nat.le_of_ble_eq_true rfl⟩) (fun x_29 S_30 hw_30 H locs hP hS => ?_)
        obtain ⟨I_30, m_30, w_30_0, w_30_1, -⟩ := hw_30
        have M_30 := dg_sm.tr M_21 m_30 (by decide) (by decide)
        have w_30_0 : 0 ≤ (x_29).toInt ∧ (x_29).toInt ≤ 1 := w_30_0
        obtain ⟨y_31, y_32, f_y_31, f_y_32, w_30_1⟩ := w_30_1
        have w_30_1 : ((y_31).toInt ≤ (en).toInt ∧ ((x_29).toInt = 1 → ((y_14).toInt + 1 ≤ (y_32).toInt ∧ (y_32).toInt - (y_14).toInt ≤ (y_31).toInt - (y_23).toInt))) ∧ g_ans x_29 ((x_lv kd vl (ru).toInt 6).1 (y_23 : Int32).toNatClampNeg) (y_31 : Int32).toNatClampNeg := w_30_1
        have b_y_31 : 0 ≤ (y_31).toInt ∧ (y_31).toInt ≤ 1600 := dg_I.intb (lo := 0) (hi := 1600) I_30 sX_209 (by decide +kernel) f_y_31
        have b_y_32 : 0 ≤ (y_32).toInt ∧ (y_32).toInt ≤ 1600 := dg_I.intb (lo := 0) (hi := 1600) I_30 sX_209 (by decide +kernel) f_y_32
        refine lv_if_eq (tgt := 54) hx hb dX6_readPair_38 (by decide) (fun c_33 => ?_) (fun c_33 => ?_)
        · have jc_33 := dk_eqc (k := 0) (by decide +kernel) c_33
          have qw_30_1 : (x_lv kd vl (ru).toInt 6).1 ((y_13 : Int32).toNatClampNeg + 1) = none := by have h9 := w_30_1.2.2 (by omega); rw [nq_y_23] at h9; exact h9
          refine lv_iconst (v := 0) hx hb dX6_readPair_54 (by decide +kernel) ?_
          refine lv_istore_n (lv' := [(3, .int 0), (0, .ref (o + 209)), (1, .int 1), (2, .int a2)]) hx hb dX6_readPair_55 rfl hl (by decide) rfl (fun ls hl => ?_)
          refine lv_aload_n hx hb dX6_readPair_56 rfl (lv_at hl 1 rfl) ?_
          refine lv_iload_n hx hb dX6_readPair_57 rfl (lv_at hl 3 rfl) ?_
          refine dg_callv hS hA1 hA (va_runV (As := [.int a2]) (rest := []) F (c_rd_put l g D o S_30 a2 en y_31 f_y_31 (by omega) y_32 f_y_32 (by omega) ke ((congrFun ((m_30.2 211 _ sX_211 (by decide)).1.trans ((m_21.2 211 _ sX_211 (by decide)).1.trans ((m_12.2 211 _ sX_211 (by decide)).1.trans ((m_4.2 211 _ sX_211 (by decide)).1.trans (m_1.2 211 _ sX_211 (by decide)).1)))) _).trans f_ke) (by omega) (by omega) I_30 H.size) (cwV 1 hts (bw_V wB_96 wB_97 wB_98 wB_24 wB_95) rfl rfl rfl (by decide +kernel) ⟨Nat.le_of_ble_eq_true rfl, Nat.le_of_ble_eq_true rfl⟩) (dg_preV sX_209 rfl K ST hP hS hA1 hA) rfl rfl hl.1 rfl (lv_room (Nat.le_of_ble_eq_true rfl)) dX6_readPair_58 ⟨Nat.le_of_ble_eq_true rfl, Nat.le_of_ble_eq_true rfl⟩) (fun S_34 hw_34 H locs hP hS => ?_)
          obtain ⟨I_34, m_34, w_34_0, -⟩ := hw_34
          have M_34 := dg_sm.tr M_30 m_34 (by decide) (by decide)
          obtain ⟨y_35, f_y_35, w_34_0⟩ := w_34_0
          have w_34_0 : (y_32).toInt < 1600 → (y_35).toInt = (y_32).toInt + 1 := w_34_0
          have b_y_35 : 0 ≤ (y_35).toInt ∧ (y_35).toInt ≤ 1600 := dg_I.intb (lo := 0) (hi := 1600) I_34 sX_209 (by decide +kernel) f_y_35
          refine lv_iload_n hx hb dX6_readPair_61 rfl (lv_at hl 0 rfl) ?_
          have hz_36 : (0 : Int32).toInt = 0 := by decide +kernel
          have hz_37 : (0 : Int32).toInt = 0 := by decide +kernel
          refine W.widen (k := 0) (n := 0) (Nat.le_of_ble_eq_true rfl) (Nat.le_of_ble_eq_true rfl) ?_
          exact dg_iret hx hb hr hlocks (by decide +kernel) hP hS ⟨I_34, M_34, (by decide +kernel), ⟨y_31, y_35, ((m_34.1 209 4 _ sX_209 (by decide)).trans f_y_31), f_y_35, ⟨⟨by omega, by omega⟩, g_ans.n (by omega) (by simp [x_prs, x_pair, g_tk, nq_y_2, qw_4_1s, nq_y_5, qw_12_1, qw_21_1s, nq_y_23, qw_30_1])⟩⟩, trivial⟩ dX6_readPair_62
        · have jc_33 := dk_neqc (k := 0) (by decide +kernel) c_33
          have qw_30_1 : (x_lv kd vl (ru).toInt 6).1 ((y_13 : Int32).toNatClampNeg + 1) = some (y_31 : Int32).toNatClampNeg := by have h9 := w_30_1.2.1 (by omega); rw [nq_y_23] at h9; exact h9
          refine lv_aload_n hx hb dX6_readPair_41 rfl (lv_at hl 0 rfl) ?_
          refine lv_bipush (v := 41) hx hb dX6_readPair_42 (by decide +kernel) ?_
          refine dg_calli hS hA1 hA (va_runV (As := [.int 41]) (rest := []) F (c_rd_takeSign l g D o S_30 41 en kd vl y_31 f_y_31 (by omega) ke ((congrFun ((m_30.2 211 _ sX_211 (by decide)).1.trans ((m_21.2 211 _ sX_211 (by decide)).1.trans ((m_12.2 211 _ sX_211 (by decide)).1.trans ((m_4.2 211 _ sX_211 (by decide)).1.trans (m_1.2 211 _ sX_211 (by decide)).1)))) _).trans f_ke) (by omega) (by omega) (fun k9 h9 => (congrFun ((m_30.2 211 _ sX_211 (by decide)).1.trans ((m_21.2 211 _ sX_211 (by decide)).1.trans ((m_12.2 211 _ sX_211 (by decide)).1.trans ((m_4.2 211 _ sX_211 (by decide)).1.trans (m_1.2 211 _ sX_211 (by decide)).1)))) k9).trans (hkd k9 h9)) (fun k9 h9 => (congrFun ((m_30.2 213 _ sX_213 (by decide)).1.trans ((m_21.2 213 _ sX_213 (by decide)).1.trans ((m_12.2 213 _ sX_213 (by decide)).1.trans ((m_4.2 213 _ sX_213 (by decide)).1.trans (m_1.2 213 _ sX_213 (by decide)).1)))) k9).trans (hvl k9 h9)) I_30 H.size) (cwV 1 hts (bw_V wB_152 wB_153 wB_154 wB_24 wB_151) rfl rfl rfl (by decide +kernel) ⟨Nat.le_of_ble_eq_true rfl, Nat.le_of_ble_eq_true rfl⟩) (dg_preV sX_209 rfl K ST hP hS hA1 hA) rfl rfl hl.1 rfl (lv_room (Nat.le_of_ble_eq_true rfl)) dX6_readPair_44 ⟨Nat.le_of_ble_eq_true rfl, Nat.le_of_ble_eq_true rfl⟩) (fun x_38 S_39 hw_39 H locs hP hS => ?_)
          obtain ⟨I_39, m_39, w_39_0, w_39_1, -⟩ := hw_39
          have M_39 := dg_sm.tr M_30 m_39 (by decide) (by decide)
          have hz_40 : (41 : Int32).toInt = 41 := by decide +kernel
          have w_39_0 : 0 ≤ (x_38).toInt ∧ (x_38).toInt ≤ 1 := w_39_0
          obtain ⟨y_41, f_y_41, w_39_1⟩ := w_39_1
          have w_39_1 : (y_41).toInt ≤ (en).toInt ∧ g_ans x_38 (g_tk kd vl ((41 : Int32)).toInt (y_31 : Int32).toNatClampNeg) (y_41 : Int32).toNatClampNeg := w_39_1
          have b_y_41 : 0 ≤ (y_41).toInt ∧ (y_41).toInt ≤ 1600 := dg_I.intb (lo := 0) (hi := 1600) I_39 sX_209 (by decide +kernel) f_y_41
          refine lv_if_eq (tgt := 54) hx hb dX6_readPair_47 (by decide) (fun c_42 => ?_) (fun c_42 => ?_)
          · have jc_42 := dk_eqc (k := 0) (by decide +kernel) c_42
            have qw_39_1 : g_tk kd vl 41 (y_31 : Int32).toNatClampNeg = none := by have h9 := w_39_1.2.2 (by omega); rw [show (41 : Int32).toInt = 41 from by decide +kernel] at h9; exact h9
            have qw_39_1s := g_tk_none qw_39_1
            refine lv_iconst (v := 0) hx hb dX6_readPair_54 (by decide +kernel) ?_
            refine lv_istore_n (lv' := [(3, .int 0), (0, .ref (o + 209)), (1, .int 1), (2, .int a2)]) hx hb dX6_readPair_55 rfl hl (by decide) rfl (fun ls hl => ?_)
            refine lv_aload_n hx hb dX6_readPair_56 rfl (lv_at hl 1 rfl) ?_
            refine lv_iload_n hx hb dX6_readPair_57 rfl (lv_at hl 3 rfl) ?_
            refine dg_callv hS hA1 hA (va_runV (As := [.int a2]) (rest := []) F (c_rd_put l g D o S_39 a2 en y_41 f_y_41 (by omega) y_32 ((m_39.1 209 7 _ sX_209 (by decide)).trans f_y_32) (by omega) ke ((congrFun ((m_39.2 211 _ sX_211 (by decide)).1.trans ((m_30.2 211 _ sX_211 (by decide)).1.trans ((m_21.2 211 _ sX_211 (by decide)).1.trans ((m_12.2 211 _ sX_211 (by decide)).1.trans ((m_4.2 211 _ sX_211 (by decide)).1.trans (m_1.2 211 _ sX_211 (by decide)).1))))) _).trans f_ke) (by omega) (by omega) I_39 H.size) (cwV 1 hts (bw_V wB_96 wB_97 wB_98 wB_24 wB_95) rfl rfl rfl (by decide +kernel) ⟨Nat.le_of_ble_eq_true rfl, Nat.le_of_ble_eq_true rfl⟩) (dg_preV sX_209 rfl K ST hP hS hA1 hA) rfl rfl hl.1 rfl (lv_room (Nat.le_of_ble_eq_true rfl)) dX6_readPair_58 ⟨Nat.le_of_ble_eq_true rfl, Nat.le_of_ble_eq_true rfl⟩) (fun S_43 hw_43 H locs hP hS => ?_)
            obtain ⟨I_43, m_43, w_43_0, -⟩ := hw_43
            have M_43 := dg_sm.tr M_39 m_43 (by decide) (by decide)
            obtain ⟨y_44, f_y_44, w_43_0⟩ := w_43_0
            have w_43_0 : (y_32).toInt < 1600 → (y_44).toInt = (y_32).toInt + 1 := w_43_0
            have b_y_44 : 0 ≤ (y_44).toInt ∧ (y_44).toInt ≤ 1600 := dg_I.intb (lo := 0) (hi := 1600) I_43 sX_209 (by decide +kernel) f_y_44
            refine lv_iload_n hx hb dX6_readPair_61 rfl (lv_at hl 0 rfl) ?_
            have hz_45 : (0 : Int32).toInt = 0 := by decide +kernel
            have hz_46 : (0 : Int32).toInt = 0 := by decide +kernel
            refine W.widen (k := 0) (n := 0) (Nat.le_of_ble_eq_true rfl) (Nat.le_of_ble_eq_true rfl) ?_
            exact dg_iret hx hb hr hlocks (by decide +kernel) hP hS ⟨I_43, M_43, (by decide +kernel), ⟨y_41, y_44, ((m_43.1 209 4 _ sX_209 (by decide)).trans f_y_41), f_y_44, ⟨⟨by omega, by omega⟩, g_ans.n (by omega) (by simp [x_prs, x_pair, g_tk, nq_y_2, qw_4_1s, nq_y_5, qw_12_1, qw_21_1s, nq_y_23, qw_30_1, qw_39_1s])⟩⟩, trivial⟩ dX6_readPair_62
          · have jc_42 := dk_neqc (k := 0) (by decide +kernel) c_42
            have qw_39_1 : g_tk kd vl 41 (y_31 : Int32).toNatClampNeg = some (y_41 : Int32).toNatClampNeg := by have h9 := w_39_1.2.1 (by omega); rw [show (41 : Int32).toInt = 41 from by decide +kernel] at h9; exact h9
            have qw_39_1s := (g_tk_some qw_39_1).1
            have nq_y_41 : (y_41 : Int32).toNatClampNeg = (y_31 : Int32).toNatClampNeg + 1 := by have h9 := (g_tk_some qw_39_1).2; omega
            have ni_y_41 : (y_41).toInt = (y_31).toInt + 1 := by have h8 := dk_clN y_41; have h9 := dk_clN y_31; omega
            refine lv_iconst (v := 1) hx hb dX6_readPair_50 (by decide +kernel) ?_
            refine lv_goto (tgt := 55) hx hb dX6_readPair_51 (by decide) ?_
            refine lv_istore_n (lv' := [(3, .int 1), (0, .ref (o + 209)), (1, .int 1), (2, .int a2)]) hx hb dX6_readPair_55 rfl hl (by decide) rfl (fun ls hl => ?_)
            refine lv_aload_n hx hb dX6_readPair_56 rfl (lv_at hl 1 rfl) ?_
            refine lv_iload_n hx hb dX6_readPair_57 rfl (lv_at hl 3 rfl) ?_
            refine dg_callv hS hA1 hA (va_runV (As := [.int a2]) (rest := []) F (c_rd_put l g D o S_39 a2 en y_41 f_y_41 (by omega) y_32 ((m_39.1 209 7 _ sX_209 (by decide)).trans f_y_32) (by omega) ke ((congrFun ((m_39.2 211 _ sX_211 (by decide)).1.trans ((m_30.2 211 _ sX_211 (by decide)).1.trans ((m_21.2 211 _ sX_211 (by decide)).1.trans ((m_12.2 211 _ sX_211 (by decide)).1.trans ((m_4.2 211 _ sX_211 (by decide)).1.trans (m_1.2 211 _ sX_211 (by decide)).1))))) _).trans f_ke) (by omega) (by omega) I_39 H.size) (cwV 1 hts (bw_V wB_96 wB_97 wB_98 wB_24 wB_95) rfl rfl rfl (by decide +kernel) ⟨Nat.le_of_ble_eq_true rfl, Nat.le_of_ble_eq_true rfl⟩) (dg_preV sX_209 rfl K ST hP hS hA1 hA) rfl rfl hl.1 rfl (lv_room (Nat.le_of_ble_eq_true rfl)) dX6_readPair_58 ⟨Nat.le_of_ble_eq_true rfl, Nat.le_of_ble_eq_true rfl⟩) (fun S_47 hw_47 H locs hP hS => ?_)
            obtain ⟨I_47, m_47, w_47_0, -⟩ := hw_47
            have M_47 := dg_sm.tr M_39 m_47 (by decide) (by decide)
            obtain ⟨y_48, f_y_48, w_47_0⟩ := w_47_0
            have w_47_0 : (y_32).toInt < 1600 → (y_48).toInt = (y_32).toInt + 1 := w_47_0
            have b_y_48 : 0 ≤ (y_48).toInt ∧ (y_48).toInt ≤ 1600 := dg_I.intb (lo := 0) (hi := 1600) I_47 sX_209 (by decide +kernel) f_y_48
            refine lv_iload_n hx hb dX6_readPair_61 rfl (lv_at hl 0 rfl) ?_
            have hz_49 : (1 : Int32).toInt = 1 := by decide +kernel
            have hz_50 : (1 : Int32).toInt = 1 := by decide +kernel
            refine W.widen (k := 0) (n := 0) (Nat.le_of_ble_eq_true rfl) (Nat.le_of_ble_eq_true rfl) ?_
            exact dg_iret hx hb hr hlocks (by decide +kernel) hP hS ⟨I_47, M_47, (by decide +kernel), ⟨y_41, y_48, ((m_47.1 209 4 _ sX_209 (by decide)).trans f_y_41), f_y_48, ⟨⟨by omega, by omega⟩, g_ans.y (by omega) (by simp [x_prs, x_pair, g_tk, nq_y_2, qw_4_1s, nq_y_5, qw_12_1, qw_21_1s, nq_y_23, qw_30_1, qw_39_1s, nq_y_41])⟩⟩, trivial⟩ dX6_readPair_62
set_option maxHeartbeats 8000000 in
set_option maxRecDepth 100000 in
theorem c_rd_readPart_1 (l : Launch) (g : Nat → ClassId) (D : va_G) (o : Nat) (S : dg_S) (en : Int32) (kd : Nat → Int32) (vl : Nat → Int32) (n0 : Int32) (f_n0 : S.1 209 4 = .int n0) (b_n0 : 0 ≤ (n0).toInt ∧ (n0).toInt ≤ 1600) (ru : Int32) (f_ru : S.1 209 6 = .int ru) (b_ru : 0 ≤ (ru).toInt ∧ (ru).toInt ≤ 2) (sc : Int32) (f_sc : S.1 209 7 = .int sc) (b_sc : 0 ≤ (sc).toInt ∧ (sc).toInt ≤ 1600) (ke : Int32) (f_ke : S.2.1 211 (en : Int32).toNatClampNeg = ke) (b_ke : 0 ≤ (ke).toInt ∧ (ke).toInt ≤ 0) (hne : (n0).toInt ≤ (en).toInt ∧ (en).toInt ≤ 1600 ∧ 0 ≤ (en).toInt) (hkd : ∀ k9 : Nat, k9 ≤ (en : Int32).toNatClampNeg → S.2.1 211 k9 = kd k9) (hvl : ∀ k9 : Nat, k9 ≤ (en : Int32).toNatClampNeg → S.2.1 213 k9 = vl k9) (hsc : (sc).toInt ≤ (n0).toInt) (I : CX o S) (sz : Nat) : Met l yX6_readPart (bw yX6_readPart cX6_readPart 3 (some .boolean)) ({ frames := 53, cells := 0, slots := 0, locals := 1217 } : Room) (dk_Pc g D (dg_w g shX o rfX S) sz [.ref (o + 209), .int 1]) (va_Qi (fun (r : Int32) S' => CX o S' ∧ dg_sm shX [(31, 0), (31, 1), (31, 4), (31, 7)] [28] S S' ∧ (0 ≤ (r).toInt ∧ (r).toInt ≤ 1) ∧ (∃ y9_4 y9_7 : Int32, S'.1 209 4 = .int y9_4 ∧ S'.1 209 7 = .int y9_7 ∧ (((y9_4).toInt ≤ (en).toInt ∧ ((r).toInt = 1 → ((sc).toInt + 1 ≤ (y9_7).toInt ∧ (y9_7).toInt - (sc).toInt ≤ (y9_4).toInt - (n0).toInt))) ∧ g_ans r (x_part kd vl (ru).toInt (x_lv kd vl (ru).toInt 6).1 (x_lv kd vl (ru).toInt 6).2.1 (n0 : Int32).toNatClampNeg) (y9_4 : Int32).toNatClampNeg)) ∧ True) (dg_B g D shX o rfX) (dg_A o shX.length sz)) 0 0 (dg_A o shX.length sz) := by
  refine dg_met (cc := cX6_readPart) (maxL := 3) (ret := (some .boolean)) (by decide) rfl (Nat.le_of_ble_eq_true rfl) ?_
  intro p e s m args below meth c A hAe harg hx hb hr hml hts hown hlocks hin hP K hS hA1 hA ST hsz ls hl
  rw [← hAe]
  have F : CallFix p m c cX6_readPart 3 s args (bw yX6_readPart cX6_readPart 3 (some .boolean)) RX6 := ⟨hx, hb, hml, hown, hts⟩
  have hl : lv_has ls 3 [(0, .ref (o + 209)), (1, .int 1)] := hl
  have M_0 : dg_sm shX [(31, 0), (31, 1), (31, 4), (31, 7)] [28] S S := dg_sm.rf
  refine lv_aload_n hx hb dX6_readPart_0 rfl (lv_at hl 0 rfl) ?_
  refine lv_bipush (v := 40) hx hb dX6_readPart_1 (by decide +kernel) ?_
  refine dg_calli hS hA1 hA (va_runV (As := [.int 40]) (rest := []) F (c_rd_isSign l g D o S 40 en kd vl n0 f_n0 (by omega) ke f_ke (by omega) (by omega) hkd hvl I s.heap.size) (cwV 1 hts (bw_V wB_34 wB_35 wB_36 wB_24 wB_33) rfl rfl rfl (by decide +kernel) ⟨Nat.le_of_ble_eq_true rfl, Nat.le_of_ble_eq_true rfl⟩) (dg_preV sX_209 rfl K ST hP hS hA1 hA) rfl rfl hl.1 rfl (lv_room (Nat.le_of_ble_eq_true rfl)) dX6_readPart_3 ⟨Nat.le_of_ble_eq_true rfl, Nat.le_of_ble_eq_true rfl⟩) (fun x_1 S_2 hw_2 H locs hP hS => ?_)
  rw [hw_2.1] at hP
  obtain ⟨hq_2, w_2_0, w_2_1, -⟩ := hw_2
  have hz_3 : (40 : Int32).toInt = 40 := by decide +kernel
  have w_2_0 : 0 ≤ (x_1).toInt ∧ (x_1).toInt ≤ 1 := w_2_0
  have w_2_1 : (x_1).toInt = 1 ↔ g_s kd vl ((40 : Int32)).toInt (n0 : Int32).toNatClampNeg = true := w_2_1
  refine lv_if_eq (tgt := 42) hx hb dX6_readPart_6 (by decide) (fun c_4 => ?_) (fun c_4 => ?_)
  · have jc_4 := dk_eqc (k := 0) (by decide +kernel) c_4
    have qw_2_1 : g_s kd vl 40 (n0 : Int32).toNatClampNeg = false := by have h9 := g_iff_f w_2_1 (by omega); rw [show (40 : Int32).toInt = 40 from by decide +kernel] at h9; exact h9
    refine lv_aload_n hx hb dX6_readPart_42 rfl (lv_at hl 0 rfl) ?_
    refine lv_bipush (v := 20) hx hb dX6_readPart_43 (by decide +kernel) ?_
    refine dg_calli hS hA1 hA (va_runV (As := [.int 20]) (rest := []) F (c_rd_isOwn l g D o S 20 en kd vl n0 f_n0 (by omega) ke f_ke (by omega) (by omega) hkd hvl I H.size) (cwV 1 hts (bw_V wB_21 wB_22 wB_23 wB_24 wB_20) rfl rfl rfl (by decide +kernel) ⟨Nat.le_of_ble_eq_true rfl, Nat.le_of_ble_eq_true rfl⟩) (dg_preV sX_209 rfl K ST hP hS hA1 hA) rfl rfl hl.1 rfl (lv_room (Nat.le_of_ble_eq_true rfl)) dX6_readPart_45 ⟨Nat.le_of_ble_eq_true rfl, Nat.le_of_ble_eq_true rfl⟩) (fun x_5 S_6 hw_6 H locs hP hS => ?_)
    rw [hw_6.1] at hP
    obtain ⟨hq_6, w_6_0, w_6_1, -⟩ := hw_6
    have hz_7 : (20 : Int32).toInt = 20 := by decide +kernel
    have w_6_0 : 0 ≤ (x_5).toInt ∧ (x_5).toInt ≤ 1 := w_6_0
    have w_6_1 : (x_5).toInt = 1 ↔ g_o kd vl ((20 : Int32)).toInt (n0 : Int32).toNatClampNeg = true := w_6_1
    refine lv_if_eq (tgt := 57) hx hb dX6_readPart_48 (by decide) (fun c_8 => ?_) (fun c_8 => ?_)
    · have jc_8 := dk_eqc (k := 0) (by decide +kernel) c_8
      have qw_6_1 : g_o kd vl 20 (n0 : Int32).toNatClampNeg = false := by have h9 := g_iff_f w_6_1 (by omega); rw [show (20 : Int32).toInt = 20 from by decide +kernel] at h9; exact h9
      refine lv_aload_n hx hb dX6_readPart_57 rfl (lv_at hl 0 rfl) ?_
      refine lv_bipush (v := 25) hx hb dX6_readPart_58 (by decide +kernel) ?_
      refine dg_calli hS hA1 hA (va_runV (As := [.int 25]) (rest := []) F (c_rd_isOwn l g D o S 25 en kd vl n0 f_n0 (by omega) ke f_ke (by omega) (by omega) hkd hvl I H.size) (cwV 1 hts (bw_V wB_21 wB_22 wB_23 wB_24 wB_20) rfl rfl rfl (by decide +kernel) ⟨Nat.le_of_ble_eq_true rfl, Nat.le_of_ble_eq_true rfl⟩) (dg_preV sX_209 rfl K ST hP hS hA1 hA) rfl rfl hl.1 rfl (lv_room (Nat.le_of_ble_eq_true rfl)) dX6_readPart_60 ⟨Nat.le_of_ble_eq_true rfl, Nat.le_of_ble_eq_true rfl⟩) (fun x_9 S_10 hw_10 H locs hP hS => ?_)
      rw [hw_10.1] at hP
      obtain ⟨hq_10, w_10_0, w_10_1, -⟩ := hw_10
      have hz_11 : (25 : Int32).toInt = 25 := by decide +kernel
      have w_10_0 : 0 ≤ (x_9).toInt ∧ (x_9).toInt ≤ 1 := w_10_0
      have w_10_1 : (x_9).toInt = 1 ↔ g_o kd vl ((25 : Int32)).toInt (n0 : Int32).toNatClampNeg = true := w_10_1
      refine lv_if_eq (tgt := 74) hx hb dX6_readPart_63 (by decide) (fun c_12 => ?_) (fun c_12 => ?_)
      · have jc_12 := dk_eqc (k := 0) (by decide +kernel) c_12
        have qw_10_1 : g_o kd vl 25 (n0 : Int32).toNatClampNeg = false := by have h9 := g_iff_f w_10_1 (by omega); rw [show (25 : Int32).toInt = 25 from by decide +kernel] at h9; exact h9
        refine lv_aload_n hx hb dX6_readPart_74 rfl (lv_at hl 0 rfl) ?_
        refine lv_bipush (v := 26) hx hb dX6_readPart_75 (by decide +kernel) ?_
        refine dg_calli hS hA1 hA (va_runV (As := [.int 26]) (rest := []) F (c_rd_isOwn l g D o S 26 en kd vl n0 f_n0 (by omega) ke f_ke (by omega) (by omega) hkd hvl I H.size) (cwV 1 hts (bw_V wB_21 wB_22 wB_23 wB_24 wB_20) rfl rfl rfl (by decide +kernel) ⟨Nat.le_of_ble_eq_true rfl, Nat.le_of_ble_eq_true rfl⟩) (dg_preV sX_209 rfl K ST hP hS hA1 hA) rfl rfl hl.1 rfl (lv_room (Nat.le_of_ble_eq_true rfl)) dX6_readPart_77 ⟨Nat.le_of_ble_eq_true rfl, Nat.le_of_ble_eq_true rfl⟩) (fun x_13 S_14 hw_14 H locs hP hS => ?_)
        rw [hw_14.1] at hP
        obtain ⟨hq_14, w_14_0, w_14_1, -⟩ := hw_14
        have hz_15 : (26 : Int32).toInt = 26 := by decide +kernel
        have w_14_0 : 0 ≤ (x_13).toInt ∧ (x_13).toInt ≤ 1 := w_14_0
        have w_14_1 : (x_13).toInt = 1 ↔ g_o kd vl ((26 : Int32)).toInt (n0 : Int32).toNatClampNeg = true := w_14_1
        refine lv_if_eq (tgt := 91) hx hb dX6_readPart_80 (by decide) (fun c_16 => ?_) (fun c_16 => ?_)
        · have jc_16 := dk_eqc (k := 0) (by decide +kernel) c_16
          have qw_14_1 : g_o kd vl 26 (n0 : Int32).toNatClampNeg = false := by have h9 := g_iff_f w_14_1 (by omega); rw [show (26 : Int32).toInt = 26 from by decide +kernel] at h9; exact h9
          refine lv_aload_n hx hb dX6_readPart_91 rfl (lv_at hl 0 rfl) ?_
          refine dg_get (C := RX6) (T := TX6) (N := 8) hx hb hts (fun w h => bw_mem (wU_X6 w h)) hown K hP sX_209 rfl 2 (by decide) (hts _ (bw_mem wB_13)) (fun _ h9 => h9) (v := .ref (o + 210)) (show S.1 209 2 = .ref (o + 210) from dg_I.rel (d := 1) I sX_209 (by decide +kernel)) dX6_readPart_92 ?_
          refine dg_get (C := RX9) (T := TX9) (N := 5) hx hb hts (fun w h => bw_mem (wU_X9 w h)) hown K hP sX_210 rfl 0 (by decide) (hts _ (bw_mem wB_14)) (fun _ h9 => h9) (v := .ref (o + 211)) (show S.1 210 0 = .ref (o + 211) from dg_I.rel (d := 1) I sX_210 (by decide +kernel)) dX6_readPart_95 ?_
          refine lv_aload_n hx hb dX6_readPart_98 rfl (lv_at hl 0 rfl) ?_
          refine dg_get (C := RX6) (T := TX6) (N := 8) hx hb hts (fun w h => bw_mem (wU_X6 w h)) hown K hP sX_209 rfl 4 (by decide) (hts _ (bw_mem wB_15)) (fun _ h9 => h9) (v := .int n0) f_n0 dX6_readPart_99 ?_
          have hin_17 : vp_in n0 1601 := (dk_inv (by omega) (by omega))
          refine dg_iald hx hb K hP sX_211 hin_17 dX6_readPart_102 (fun x_18 ex_18 => ?_)
          have hs_x_18 : (n0 : Int32).toInt = (en).toInt → (x_18).toInt = (ke).toInt := fun h => by have h9 := Int32.toInt_inj.mp h; rw [ex_18, h9]; exact congrArg Int32.toInt f_ke
          have kx_18 : (kd (n0 : Int32).toNatClampNeg).toInt = (x_18).toInt := by rw [ex_18, hkd _ (by unfold Int32.toNatClampNeg; omega)]
          refine lv_iconst (v := 3) hx hb dX6_readPart_103 (by decide +kernel) ?_
          refine lv_icmp_ne (tgt := 129) hx hb dX6_readPart_104 (by decide) (fun c_19 => ?_) (fun c_19 => ?_)
          · have jc_19 := dk_neqc (k := 3) (by decide +kernel) c_19
            refine lv_aload_n hx hb dX6_readPart_129 rfl (lv_at hl 0 rfl) ?_
            refine dg_calli hS hA1 hA (va_runV (As := []) (rest := []) F (c_rd_factStep l g D o S en kd vl n0 f_n0 (by omega) ru f_ru (by omega) ke f_ke (by omega) (by omega) hkd hvl I H.size) (cwV 0 hts (bw_V wB_100 wB_101 wB_102 wB_24 wB_99) rfl rfl rfl (by decide +kernel) ⟨Nat.le_of_ble_eq_true rfl, Nat.le_of_ble_eq_true rfl⟩) (dg_preV sX_209 rfl K ST hP hS hA1 hA) rfl rfl hl.1 rfl (lv_room (Nat.le_of_ble_eq_true rfl)) dX6_readPart_130 ⟨Nat.le_of_ble_eq_true rfl, Nat.le_of_ble_eq_true rfl⟩) (fun x_20 S_21 hw_21 H locs hP hS => ?_)
            rw [hw_21.1] at hP
            obtain ⟨hq_21, w_21_0, w_21_1, -⟩ := hw_21
            have w_21_0 : (-6) ≤ (x_20).toInt ∧ (x_20).toInt ≤ 0 := w_21_0
            have w_21_1 : (x_20).toInt ≠ 0 ↔ g_fw kd vl (ru).toInt (n0 : Int32).toNatClampNeg = true := w_21_1
            refine lv_istore_n (lv' := [(2, .int x_20), (0, .ref (o + 209)), (1, .int 1)]) hx hb dX6_readPart_133 rfl hl (by decide) rfl (fun ls hl => ?_)
            refine lv_iload_n hx hb dX6_readPart_134 rfl (lv_at hl 0 rfl) ?_
            refine lv_if_ne (tgt := 144) hx hb dX6_readPart_135 (by decide) (fun c_22 => ?_) (fun c_22 => ?_)
            · have jc_22 := dk_neqc (k := 0) (by decide +kernel) c_22
              have qw_21_1 : g_fw kd vl (ru).toInt (n0 : Int32).toNatClampNeg = true := by have h9 := w_21_1.mp (by omega); exact h9
              have qkw_21_1 := (g_fw_iff.mp qw_21_1).1
              refine lv_aload_n hx hb dX6_readPart_144 rfl (lv_at hl 1 rfl) ?_
              refine lv_iload_n hx hb dX6_readPart_145 rfl (lv_at hl 0 rfl) ?_
              refine dg_callv hS hA1 hA (va_runV (As := [.int x_20]) (rest := []) F (c_rd_put l g D o S x_20 en n0 f_n0 (by omega) sc f_sc (by omega) ke f_ke (by omega) (by omega) I H.size) (cwV 1 hts (bw_V wB_96 wB_97 wB_98 wB_24 wB_95) rfl rfl rfl (by decide +kernel) ⟨Nat.le_of_ble_eq_true rfl, Nat.le_of_ble_eq_true rfl⟩) (dg_preV sX_209 rfl K ST hP hS hA1 hA) rfl rfl hl.1 rfl (lv_room (Nat.le_of_ble_eq_true rfl)) dX6_readPart_146 ⟨Nat.le_of_ble_eq_true rfl, Nat.le_of_ble_eq_true rfl⟩) (fun S_23 hw_23 H locs hP hS => ?_)
              obtain ⟨I_23, m_23, w_23_0, -⟩ := hw_23
              have M_23 := dg_sm.tr M_0 m_23 (by decide) (by decide)
              obtain ⟨y_24, f_y_24, w_23_0⟩ := w_23_0
              have w_23_0 : (sc).toInt < 1600 → (y_24).toInt = (sc).toInt + 1 := w_23_0
              have b_y_24 : 0 ≤ (y_24).toInt ∧ (y_24).toInt ≤ 1600 := dg_I.intb (lo := 0) (hi := 1600) I_23 sX_209 (by decide +kernel) f_y_24
              refine lv_aload_n hx hb dX6_readPart_149 rfl (lv_at hl 1 rfl) ?_
              refine dg_callv hS hA1 hA (va_runV (As := []) (rest := []) F (c_rd_pass l g D o S_23 en kd vl n0 ((m_23.1 209 4 _ sX_209 (by decide)).trans f_n0) (by omega) ke ((congrFun (m_23.2 211 _ sX_211 (by decide)).1 _).trans f_ke) (by omega) (by omega) (fun k9 h9 => (congrFun (m_23.2 211 _ sX_211 (by decide)).1 k9).trans (hkd k9 h9)) (fun k9 h9 => (congrFun (m_23.2 213 _ sX_213 (by decide)).1 k9).trans (hvl k9 h9)) I_23 H.size) (cwV 0 hts (bw_V wB_26 wB_27 wB_28 wB_24 wB_25) rfl rfl rfl (by decide +kernel) ⟨Nat.le_of_ble_eq_true rfl, Nat.le_of_ble_eq_true rfl⟩) (dg_preV sX_209 rfl K ST hP hS hA1 hA) rfl rfl hl.1 rfl (lv_room (Nat.le_of_ble_eq_true rfl)) dX6_readPart_150 ⟨Nat.le_of_ble_eq_true rfl, Nat.le_of_ble_eq_true rfl⟩) (fun S_25 hw_25 H locs hP hS => ?_)
              obtain ⟨I_25, m_25, w_25_0, -⟩ := hw_25
              have M_25 := dg_sm.tr M_23 m_25 (by decide) (by decide)
              obtain ⟨y_26, f_y_26, w_25_0⟩ := w_25_0
              have w_25_0 : (y_26).toInt ≤ (en).toInt ∧ ((kd (n0 : Int32).toNatClampNeg).toInt ≠ 0 → (y_26 : Int32).toNatClampNeg = (n0 : Int32).toNatClampNeg + 1) := w_25_0
              have b_y_26 : 0 ≤ (y_26).toInt ∧ (y_26).toInt ≤ 1600 := dg_I.intb (lo := 0) (hi := 1600) I_25 sX_209 (by decide +kernel) f_y_26
              have nq_y_26 : (y_26 : Int32).toNatClampNeg = (n0 : Int32).toNatClampNeg + 1 := by have h9 := w_25_0.2 (g_fw_ne qw_21_1); omega
              have ni_y_26 : (y_26).toInt = (n0).toInt + 1 := by have h8 := dk_clN y_26; have h9 := dk_clN n0; omega
              refine lv_iconst (v := 1) hx hb dX6_readPart_153 (by decide +kernel) ?_
              have hz_27 : (1 : Int32).toInt = 1 := by decide +kernel
              have hz_28 : (1 : Int32).toInt = 1 := by decide +kernel
              have qn9 : g_n kd (n0 : Int32).toNatClampNeg = false := g_iff_f g_n_iff.symm (by omega)
              refine W.widen (k := 0) (n := 0) (Nat.le_of_ble_eq_true rfl) (Nat.le_of_ble_eq_true rfl) ?_
              exact dg_iret hx hb hr hlocks (by decide +kernel) hP hS ⟨I_25, M_25, (by decide +kernel), ⟨y_26, y_24, f_y_26, ((m_25.1 209 7 _ sX_209 (by decide)).trans f_y_24), ⟨⟨by omega, by omega⟩, g_ans.y (by omega) (by simp [x_part, g_tk, qw_2_1, qw_6_1, qw_10_1, qw_14_1, qw_21_1, nq_y_26, qn9])⟩⟩, trivial⟩ dX6_readPart_154
            · have jc_22 := dk_eqc (k := 0) (by decide +kernel) c_22
              have qw_21_1 : g_fw kd vl (ru).toInt (n0 : Int32).toNatClampNeg = false := by have h9 := g_iff_f w_21_1 (by omega); exact h9
              refine lv_aload_n hx hb dX6_readPart_138 rfl (lv_at hl 1 rfl) ?_
              refine lv_iconst (v := 1) hx hb dX6_readPart_139 (by decide +kernel) ?_
              refine dg_calli hS hA1 hA (va_runV (As := [.int 1]) (rest := []) F (c_rd_fail l g D o S 1 en n0 f_n0 (by omega) ke f_ke (by omega) (by omega) I H.size) (cwV 1 hts (bw_V wB_30 wB_31 wB_32 wB_24 wB_29) rfl rfl rfl (by decide +kernel) ⟨Nat.le_of_ble_eq_true rfl, Nat.le_of_ble_eq_true rfl⟩) (dg_preV sX_209 rfl K ST hP hS hA1 hA) rfl rfl hl.1 rfl (lv_room (Nat.le_of_ble_eq_true rfl)) dX6_readPart_140 ⟨Nat.le_of_ble_eq_true rfl, Nat.le_of_ble_eq_true rfl⟩) (fun x_29 S_30 hw_30 H locs hP hS => ?_)
              obtain ⟨I_30, m_30, w_30_0, -⟩ := hw_30
              have M_30 := dg_sm.tr M_0 m_30 (by decide) (by decide)
              have w_30_0 : 0 ≤ (x_29).toInt ∧ (x_29).toInt ≤ 0 := w_30_0
              have qn9 : g_n kd (n0 : Int32).toNatClampNeg = false := g_iff_f g_n_iff.symm (by omega)
              refine W.widen (k := 0) (n := 0) (Nat.le_of_ble_eq_true rfl) (Nat.le_of_ble_eq_true rfl) ?_
              exact dg_iret hx hb hr hlocks (dk_znar (by omega) (by omega)) hP hS ⟨I_30, M_30, (by omega), ⟨n0, sc, ((m_30.1 209 4 _ sX_209 (by decide)).trans f_n0), ((m_30.1 209 7 _ sX_209 (by decide)).trans f_sc), ⟨⟨by omega, by omega⟩, g_ans.n (by omega) (by simp [x_part, g_tk, qw_2_1, qw_6_1, qw_10_1, qw_14_1, qw_21_1, qn9])⟩⟩, trivial⟩ dX6_readPart_143
          · have jc_19 := dk_eqc (k := 3) (by decide +kernel) c_19
            refine lv_aload_n hx hb dX6_readPart_107 rfl (lv_at hl 0 rfl) ?_
            refine lv_aload_n hx hb dX6_readPart_108 rfl (lv_at hl 0 rfl) ?_
            refine dg_get (C := RX6) (T := TX6) (N := 8) hx hb hts (fun w h => bw_mem (wU_X6 w h)) hown K hP sX_209 rfl 2 (by decide) (hts _ (bw_mem wB_13)) (fun _ h9 => h9) (v := .ref (o + 210)) (show S.1 209 2 = .ref (o + 210) from dg_I.rel (d := 1) I sX_209 (by decide +kernel)) dX6_readPart_109 ?_
            refine dg_get (C := RX9) (T := TX9) (N := 5) hx hb hts (fun w h => bw_mem (wU_X9 w h)) hown K hP sX_210 rfl 2 (by decide) (hts _ (bw_mem wB_16)) (fun _ h9 => h9) (v := .ref (o + 213)) (show S.1 210 2 = .ref (o + 213) from dg_I.rel (d := 3) I sX_210 (by decide +kernel)) dX6_readPart_112 ?_
            refine lv_aload_n hx hb dX6_readPart_115 rfl (lv_at hl 0 rfl) ?_
            refine dg_get (C := RX6) (T := TX6) (N := 8) hx hb hts (fun w h => bw_mem (wU_X6 w h)) hown K hP sX_209 rfl 4 (by decide) (hts _ (bw_mem wB_15)) (fun _ h9 => h9) (v := .int n0) f_n0 dX6_readPart_116 ?_
            have hin_31 : vp_in n0 1601 := (dk_inv (by omega) (by omega))
            refine dg_iald hx hb K hP sX_213 hin_31 dX6_readPart_119 (fun x_32 ex_32 => ?_)
            have kx_32 : (vl (n0 : Int32).toNatClampNeg).toInt = (x_32).toInt := by rw [ex_32, hvl _ (by unfold Int32.toNatClampNeg; omega)]
            refine dg_callv hS hA1 hA (va_runV (As := [.int x_32]) (rest := []) F (c_rd_put l g D o S x_32 en n0 f_n0 (by omega) sc f_sc (by omega) ke f_ke (by omega) (by omega) I H.size) (cwV 1 hts (bw_V wB_96 wB_97 wB_98 wB_24 wB_95) rfl rfl rfl (by decide +kernel) ⟨Nat.le_of_ble_eq_true rfl, Nat.le_of_ble_eq_true rfl⟩) (dg_preV sX_209 rfl K ST hP hS hA1 hA) rfl rfl hl.1 rfl (lv_room (Nat.le_of_ble_eq_true rfl)) dX6_readPart_120 ⟨Nat.le_of_ble_eq_true rfl, Nat.le_of_ble_eq_true rfl⟩) (fun S_33 hw_33 H locs hP hS => ?_)
            obtain ⟨I_33, m_33, w_33_0, -⟩ := hw_33
            have M_33 := dg_sm.tr M_0 m_33 (by decide) (by decide)
            obtain ⟨y_34, f_y_34, w_33_0⟩ := w_33_0
            have w_33_0 : (sc).toInt < 1600 → (y_34).toInt = (sc).toInt + 1 := w_33_0
            have b_y_34 : 0 ≤ (y_34).toInt ∧ (y_34).toInt ≤ 1600 := dg_I.intb (lo := 0) (hi := 1600) I_33 sX_209 (by decide +kernel) f_y_34
            refine lv_aload_n hx hb dX6_readPart_123 rfl (lv_at hl 0 rfl) ?_
            refine dg_callv hS hA1 hA (va_runV (As := []) (rest := []) F (c_rd_pass l g D o S_33 en kd vl n0 ((m_33.1 209 4 _ sX_209 (by decide)).trans f_n0) (by omega) ke ((congrFun (m_33.2 211 _ sX_211 (by decide)).1 _).trans f_ke) (by omega) (by omega) (fun k9 h9 => (congrFun (m_33.2 211 _ sX_211 (by decide)).1 k9).trans (hkd k9 h9)) (fun k9 h9 => (congrFun (m_33.2 213 _ sX_213 (by decide)).1 k9).trans (hvl k9 h9)) I_33 H.size) (cwV 0 hts (bw_V wB_26 wB_27 wB_28 wB_24 wB_25) rfl rfl rfl (by decide +kernel) ⟨Nat.le_of_ble_eq_true rfl, Nat.le_of_ble_eq_true rfl⟩) (dg_preV sX_209 rfl K ST hP hS hA1 hA) rfl rfl hl.1 rfl (lv_room (Nat.le_of_ble_eq_true rfl)) dX6_readPart_124 ⟨Nat.le_of_ble_eq_true rfl, Nat.le_of_ble_eq_true rfl⟩) (fun S_35 hw_35 H locs hP hS => ?_)
            obtain ⟨I_35, m_35, w_35_0, -⟩ := hw_35
            have M_35 := dg_sm.tr M_33 m_35 (by decide) (by decide)
            obtain ⟨y_36, f_y_36, w_35_0⟩ := w_35_0
            have w_35_0 : (y_36).toInt ≤ (en).toInt ∧ ((kd (n0 : Int32).toNatClampNeg).toInt ≠ 0 → (y_36 : Int32).toNatClampNeg = (n0 : Int32).toNatClampNeg + 1) := w_35_0
            have b_y_36 : 0 ≤ (y_36).toInt ∧ (y_36).toInt ≤ 1600 := dg_I.intb (lo := 0) (hi := 1600) I_35 sX_209 (by decide +kernel) f_y_36
            have nq_y_36 : (y_36 : Int32).toNatClampNeg = (n0 : Int32).toNatClampNeg + 1 := by have h9 := w_35_0.2 (by omega); omega
            have ni_y_36 : (y_36).toInt = (n0).toInt + 1 := by have h8 := dk_clN y_36; have h9 := dk_clN n0; omega
            refine lv_iconst (v := 1) hx hb dX6_readPart_127 (by decide +kernel) ?_
            have hz_37 : (1 : Int32).toInt = 1 := by decide +kernel
            have hz_38 : (1 : Int32).toInt = 1 := by decide +kernel
            have qn9 : g_n kd (n0 : Int32).toNatClampNeg = true := g_n_iff.mpr (by omega)
            refine W.widen (k := 0) (n := 0) (Nat.le_of_ble_eq_true rfl) (Nat.le_of_ble_eq_true rfl) ?_
            exact dg_iret hx hb hr hlocks (by decide +kernel) hP hS ⟨I_35, M_35, (by decide +kernel), ⟨y_36, y_34, f_y_36, ((m_35.1 209 7 _ sX_209 (by decide)).trans f_y_34), ⟨⟨by omega, by omega⟩, g_ans.y (by omega) (by simp [x_part, g_tk, qw_2_1, qw_6_1, qw_10_1, qw_14_1, nq_y_36, qn9])⟩⟩, trivial⟩ dX6_readPart_128
        · have jc_16 := dk_neqc (k := 0) (by decide +kernel) c_16
          have qw_14_1 : g_o kd vl 26 (n0 : Int32).toNatClampNeg = true := by have h9 := w_14_1.mp (by omega); rw [show (26 : Int32).toInt = 26 from by decide +kernel] at h9; exact h9
          refine lv_aload_n hx hb dX6_readPart_83 rfl (lv_at hl 0 rfl) ?_
          refine lv_iload_n hx hb dX6_readPart_84 rfl (lv_at hl 1 rfl) ?_
          refine lv_bipush (v := (-16)) hx hb dX6_readPart_85 (by decide +kernel) ?_
          refine dg_calli hS hA1 hA (va_runV (As := [.int 1, .int (-16)]) (rest := []) F (c_rd_readPair_1 l g D o S (-16) en kd vl n0 f_n0 (by omega) ru f_ru (by omega) sc f_sc (by omega) ke f_ke (by omega) (by omega) hkd hvl (by omega) (g_o_ne qw_14_1) I H.size) (cwV 2 hts (bw_V wB_104 wB_105 wB_106 wB_24 wB_103) rfl rfl rfl (by decide +kernel) ⟨Nat.le_of_ble_eq_true rfl, Nat.le_of_ble_eq_true rfl⟩) (dg_preV sX_209 rfl K ST hP hS hA1 hA) rfl rfl hl.1 rfl (lv_room (Nat.le_of_ble_eq_true rfl)) dX6_readPart_87 ⟨Nat.le_of_ble_eq_true rfl, Nat.le_of_ble_eq_true rfl⟩) (fun x_39 S_40 hw_40 H locs hP hS => ?_)
          obtain ⟨I_40, m_40, w_40_0, w_40_1, -⟩ := hw_40
          have M_40 := dg_sm.tr M_0 m_40 (by decide) (by decide)
          have hz_41 : (-16 : Int32).toInt = (-16) := by decide +kernel
          have w_40_0 : 0 ≤ (x_39).toInt ∧ (x_39).toInt ≤ 1 := w_40_0
          obtain ⟨y_42, y_43, f_y_42, f_y_43, w_40_1⟩ := w_40_1
          have w_40_1 : ((y_42).toInt ≤ (en).toInt ∧ ((x_39).toInt = 1 → ((sc).toInt + 1 ≤ (y_43).toInt ∧ (y_43).toInt - (sc).toInt ≤ (y_42).toInt - (n0).toInt))) ∧ g_ans x_39 (x_prs kd vl (x_lv kd vl (ru).toInt 6).1 (n0 : Int32).toNatClampNeg) (y_42 : Int32).toNatClampNeg := w_40_1
          have b_y_42 : 0 ≤ (y_42).toInt ∧ (y_42).toInt ≤ 1600 := dg_I.intb (lo := 0) (hi := 1600) I_40 sX_209 (by decide +kernel) f_y_42
          have b_y_43 : 0 ≤ (y_43).toInt ∧ (y_43).toInt ≤ 1600 := dg_I.intb (lo := 0) (hi := 1600) I_40 sX_209 (by decide +kernel) f_y_43
          refine W.widen (k := 0) (n := 0) (Nat.le_of_ble_eq_true rfl) (Nat.le_of_ble_eq_true rfl) ?_
          exact dg_iret hx hb hr hlocks (dk_znar (by omega) (by omega)) hP hS ⟨I_40, M_40, (by omega), ⟨y_42, y_43, f_y_42, f_y_43, ⟨⟨by omega, by omega⟩, (g_ans.to (E := x_prs kd vl (x_lv kd vl (ru).toInt 6).1 (n0 : Int32).toNatClampNeg) (by have h9 := w_40_1.2; exact h9) (by simp [x_part, g_tk, qw_2_1, qw_6_1, qw_10_1, qw_14_1]))⟩⟩, trivial⟩ dX6_readPart_90
      · have jc_12 := dk_neqc (k := 0) (by decide +kernel) c_12
        have qw_10_1 : g_o kd vl 25 (n0 : Int32).toNatClampNeg = true := by have h9 := w_10_1.mp (by omega); rw [show (25 : Int32).toInt = 25 from by decide +kernel] at h9; exact h9
        refine lv_aload_n hx hb dX6_readPart_66 rfl (lv_at hl 0 rfl) ?_
        refine lv_iload_n hx hb dX6_readPart_67 rfl (lv_at hl 1 rfl) ?_
        refine lv_bipush (v := (-15)) hx hb dX6_readPart_68 (by decide +kernel) ?_
        refine dg_calli hS hA1 hA (va_runV (As := [.int 1, .int (-15)]) (rest := []) F (c_rd_readPair_1 l g D o S (-15) en kd vl n0 f_n0 (by omega) ru f_ru (by omega) sc f_sc (by omega) ke f_ke (by omega) (by omega) hkd hvl (by omega) (g_o_ne qw_10_1) I H.size) (cwV 2 hts (bw_V wB_104 wB_105 wB_106 wB_24 wB_103) rfl rfl rfl (by decide +kernel) ⟨Nat.le_of_ble_eq_true rfl, Nat.le_of_ble_eq_true rfl⟩) (dg_preV sX_209 rfl K ST hP hS hA1 hA) rfl rfl hl.1 rfl (lv_room (Nat.le_of_ble_eq_true rfl)) dX6_readPart_70 ⟨Nat.le_of_ble_eq_true rfl, Nat.le_of_ble_eq_true rfl⟩) (fun x_44 S_45 hw_45 H locs hP hS => ?_)
        obtain ⟨I_45, m_45, w_45_0, w_45_1, -⟩ := hw_45
        have M_45 := dg_sm.tr M_0 m_45 (by decide) (by decide)
        have hz_46 : (-15 : Int32).toInt = (-15) := by decide +kernel
        have w_45_0 : 0 ≤ (x_44).toInt ∧ (x_44).toInt ≤ 1 := w_45_0
        obtain ⟨y_47, y_48, f_y_47, f_y_48, w_45_1⟩ := w_45_1
        have w_45_1 : ((y_47).toInt ≤ (en).toInt ∧ ((x_44).toInt = 1 → ((sc).toInt + 1 ≤ (y_48).toInt ∧ (y_48).toInt - (sc).toInt ≤ (y_47).toInt - (n0).toInt))) ∧ g_ans x_44 (x_prs kd vl (x_lv kd vl (ru).toInt 6).1 (n0 : Int32).toNatClampNeg) (y_47 : Int32).toNatClampNeg := w_45_1
        have b_y_47 : 0 ≤ (y_47).toInt ∧ (y_47).toInt ≤ 1600 := dg_I.intb (lo := 0) (hi := 1600) I_45 sX_209 (by decide +kernel) f_y_47
        have b_y_48 : 0 ≤ (y_48).toInt ∧ (y_48).toInt ≤ 1600 := dg_I.intb (lo := 0) (hi := 1600) I_45 sX_209 (by decide +kernel) f_y_48
        refine W.widen (k := 0) (n := 0) (Nat.le_of_ble_eq_true rfl) (Nat.le_of_ble_eq_true rfl) ?_
        exact dg_iret hx hb hr hlocks (dk_znar (by omega) (by omega)) hP hS ⟨I_45, M_45, (by omega), ⟨y_47, y_48, f_y_47, f_y_48, ⟨⟨by omega, by omega⟩, (g_ans.to (E := x_prs kd vl (x_lv kd vl (ru).toInt 6).1 (n0 : Int32).toNatClampNeg) (by have h9 := w_45_1.2; exact h9) (by simp [x_part, g_tk, qw_2_1, qw_6_1, qw_10_1]))⟩⟩, trivial⟩ dX6_readPart_73
    · have jc_8 := dk_neqc (k := 0) (by decide +kernel) c_8
      have qw_6_1 : g_o kd vl 20 (n0 : Int32).toNatClampNeg = true := by have h9 := w_6_1.mp (by omega); rw [show (20 : Int32).toInt = 20 from by decide +kernel] at h9; exact h9
      refine lv_aload_n hx hb dX6_readPart_51 rfl (lv_at hl 0 rfl) ?_
      refine lv_iload_n hx hb dX6_readPart_52 rfl (lv_at hl 1 rfl) ?_
      refine dg_calli hS hA1 hA (va_runV (As := [.int 1]) (rest := []) F (c_rd_readChoice_1 l g D o S en kd vl n0 f_n0 (by omega) ru f_ru (by omega) sc f_sc (by omega) ke f_ke (by omega) (by omega) hkd hvl (by omega) (g_o_ne qw_6_1) I H.size) (cwV 1 hts (bw_V wB_108 wB_109 wB_110 wB_24 wB_107) rfl rfl rfl (by decide +kernel) ⟨Nat.le_of_ble_eq_true rfl, Nat.le_of_ble_eq_true rfl⟩) (dg_preV sX_209 rfl K ST hP hS hA1 hA) rfl rfl hl.1 rfl (lv_room (Nat.le_of_ble_eq_true rfl)) dX6_readPart_53 ⟨Nat.le_of_ble_eq_true rfl, Nat.le_of_ble_eq_true rfl⟩) (fun x_49 S_50 hw_50 H locs hP hS => ?_)
      obtain ⟨I_50, m_50, w_50_0, w_50_1, -⟩ := hw_50
      have M_50 := dg_sm.tr M_0 m_50 (by decide) (by decide)
      have w_50_0 : 0 ≤ (x_49).toInt ∧ (x_49).toInt ≤ 1 := w_50_0
      obtain ⟨y_51, y_52, f_y_51, f_y_52, w_50_1⟩ := w_50_1
      have w_50_1 : ((y_51).toInt ≤ (en).toInt ∧ ((x_49).toInt = 1 → ((sc).toInt + 1 ≤ (y_52).toInt ∧ (y_52).toInt - (sc).toInt ≤ (y_51).toInt - (n0).toInt))) ∧ g_ans x_49 (x_choice kd vl (x_lv kd vl (ru).toInt 6).1 (x_lv kd vl (ru).toInt 6).2.1 (n0 : Int32).toNatClampNeg) (y_51 : Int32).toNatClampNeg := w_50_1
      have b_y_51 : 0 ≤ (y_51).toInt ∧ (y_51).toInt ≤ 1600 := dg_I.intb (lo := 0) (hi := 1600) I_50 sX_209 (by decide +kernel) f_y_51
      have b_y_52 : 0 ≤ (y_52).toInt ∧ (y_52).toInt ≤ 1600 := dg_I.intb (lo := 0) (hi := 1600) I_50 sX_209 (by decide +kernel) f_y_52
      refine W.widen (k := 0) (n := 0) (Nat.le_of_ble_eq_true rfl) (Nat.le_of_ble_eq_true rfl) ?_
      exact dg_iret hx hb hr hlocks (dk_znar (by omega) (by omega)) hP hS ⟨I_50, M_50, (by omega), ⟨y_51, y_52, f_y_51, f_y_52, ⟨⟨by omega, by omega⟩, (g_ans.to (E := x_choice kd vl (x_lv kd vl (ru).toInt 6).1 (x_lv kd vl (ru).toInt 6).2.1 (n0 : Int32).toNatClampNeg) (by have h9 := w_50_1.2; exact h9) (by simp [x_part, g_tk, qw_2_1, qw_6_1]))⟩⟩, trivial⟩ dX6_readPart_56
  · have jc_4 := dk_neqc (k := 0) (by decide +kernel) c_4
    have qw_2_1 : g_s kd vl 40 (n0 : Int32).toNatClampNeg = true := by have h9 := w_2_1.mp (by omega); rw [show (40 : Int32).toInt = 40 from by decide +kernel] at h9; exact h9
    refine lv_aload_n hx hb dX6_readPart_9 rfl (lv_at hl 0 rfl) ?_
    refine lv_iload_n hx hb dX6_readPart_10 rfl (lv_at hl 1 rfl) ?_
    refine dg_calli hS hA1 hA (va_runV (As := [.int 1]) (rest := []) F (c_rd_passOpening_1 l g D o S en kd vl n0 f_n0 (by omega) ke f_ke (by omega) (by omega) hkd hvl I H.size) (cwV 1 hts (bw_V wB_88 wB_89 wB_90 wB_24 wB_87) rfl rfl rfl (by decide +kernel) ⟨Nat.le_of_ble_eq_true rfl, Nat.le_of_ble_eq_true rfl⟩) (dg_preV sX_209 rfl K ST hP hS hA1 hA) rfl rfl hl.1 rfl (lv_room (Nat.le_of_ble_eq_true rfl)) dX6_readPart_11 ⟨Nat.le_of_ble_eq_true rfl, Nat.le_of_ble_eq_true rfl⟩) (fun x_53 S_54 hw_54 H locs hP hS => ?_)
    obtain ⟨I_54, m_54, w_54_0, w_54_1, -⟩ := hw_54
    have M_54 := dg_sm.tr M_0 m_54 (by decide) (by decide)
    have w_54_0 : 1 ≤ (x_53).toInt ∧ (x_53).toInt ≤ 1 := w_54_0
    obtain ⟨y_55, f_y_55, w_54_1⟩ := w_54_1
    have w_54_1 : (y_55).toInt ≤ (en).toInt ∧ ((kd (n0 : Int32).toNatClampNeg).toInt ≠ 0 → (y_55 : Int32).toNatClampNeg = (n0 : Int32).toNatClampNeg + 1) := w_54_1
    have b_y_55 : 0 ≤ (y_55).toInt ∧ (y_55).toInt ≤ 1600 := dg_I.intb (lo := 0) (hi := 1600) I_54 sX_209 (by decide +kernel) f_y_55
    have nq_y_55 : (y_55 : Int32).toNatClampNeg = (n0 : Int32).toNatClampNeg + 1 := by have h9 := w_54_1.2 (g_s_ne qw_2_1); omega
    have ni_y_55 : (y_55).toInt = (n0).toInt + 1 := by have h8 := dk_clN y_55; have h9 := dk_clN n0; omega
    refine lv_if_eq (tgt := 40) hx hb dX6_readPart_14 (by decide) (fun c => absurd c (fun z => absurd (dk_eqc (k := 0) (by decide +kernel) z) (by omega))) (fun _ => ?_)
    refine lv_aload_n hx hb dX6_readPart_17 rfl (lv_at hl 0 rfl) ?_
    refine lv_iload_n hx hb dX6_readPart_18 rfl (lv_at hl 1 rfl) ?_
    refine lv_iconst (v := 1) hx hb dX6_readPart_19 (by decide +kernel) ?_
    refine lv_iadd hx hb dX6_readPart_20 ?_
    refine dk_top (y := 2) (by decide +kernel) ?_
    refine dg_calli hS hA1 hA (va_runV (As := [.int 2]) (rest := []) F (c_rd_readSum_2 l g D o S_54 en kd vl y_55 f_y_55 (by omega) ru ((m_54.1 209 6 _ sX_209 (by decide)).trans f_ru) (by omega) sc ((m_54.1 209 7 _ sX_209 (by decide)).trans f_sc) (by omega) ke ((congrFun (m_54.2 211 _ sX_211 (by decide)).1 _).trans f_ke) (by omega) (by omega) (fun k9 h9 => (congrFun (m_54.2 211 _ sX_211 (by decide)).1 k9).trans (hkd k9 h9)) (fun k9 h9 => (congrFun (m_54.2 213 _ sX_213 (by decide)).1 k9).trans (hvl k9 h9)) (by omega) I_54 H.size) (cwV 1 hts (bw_V wB_128 wB_129 wB_130 wB_24 wB_127) rfl rfl rfl (by decide +kernel) ⟨Nat.le_of_ble_eq_true rfl, Nat.le_of_ble_eq_true rfl⟩) (dg_preV sX_209 rfl K ST hP hS hA1 hA) rfl rfl hl.1 rfl (lv_room (Nat.le_of_ble_eq_true rfl)) dX6_readPart_21 ⟨Nat.le_of_ble_eq_true rfl, Nat.le_of_ble_eq_true rfl⟩) (fun x_56 S_57 hw_57 H locs hP hS => ?_)
    obtain ⟨I_57, m_57, w_57_0, w_57_1, -⟩ := hw_57
    have M_57 := dg_sm.tr M_54 m_57 (by decide) (by decide)
    have w_57_0 : 0 ≤ (x_56).toInt ∧ (x_56).toInt ≤ 1 := w_57_0
    obtain ⟨y_58, y_59, f_y_58, f_y_59, w_57_1⟩ := w_57_1
    have w_57_1 : ((y_58).toInt ≤ (en).toInt ∧ ((x_56).toInt = 1 → ((sc).toInt + 1 ≤ (y_59).toInt ∧ (y_59).toInt - (sc).toInt ≤ (y_58).toInt - (y_55).toInt))) ∧ g_ans x_56 ((x_lv kd vl (ru).toInt 6).1 (y_55 : Int32).toNatClampNeg) (y_58 : Int32).toNatClampNeg := w_57_1
    have b_y_58 : 0 ≤ (y_58).toInt ∧ (y_58).toInt ≤ 1600 := dg_I.intb (lo := 0) (hi := 1600) I_57 sX_209 (by decide +kernel) f_y_58
    have b_y_59 : 0 ≤ (y_59).toInt ∧ (y_59).toInt ≤ 1600 := dg_I.intb (lo := 0) (hi := 1600) I_57 sX_209 (by decide +kernel) f_y_59
    refine lv_if_eq (tgt := 40) hx hb dX6_readPart_24 (by decide) (fun c_60 => ?_) (fun c_60 => ?_)
    · have jc_60 := dk_eqc (k := 0) (by decide +kernel) c_60
      have qw_57_1 : (x_lv kd vl (ru).toInt 6).1 ((n0 : Int32).toNatClampNeg + 1) = none := by have h9 := w_57_1.2.2 (by omega); rw [nq_y_55] at h9; exact h9
      refine lv_iconst (v := 0) hx hb dX6_readPart_40 (by decide +kernel) ?_
      have hz_61 : (0 : Int32).toInt = 0 := by decide +kernel
      have hz_62 : (0 : Int32).toInt = 0 := by decide +kernel
      refine W.widen (k := 0) (n := 0) (Nat.le_of_ble_eq_true rfl) (Nat.le_of_ble_eq_true rfl) ?_
      exact dg_iret hx hb hr hlocks (by decide +kernel) hP hS ⟨I_57, M_57, (by decide +kernel), ⟨y_58, y_59, f_y_58, f_y_59, ⟨⟨by omega, by omega⟩, g_ans.n (by omega) (by simp [x_part, g_tk, qw_2_1, nq_y_55, qw_57_1])⟩⟩, trivial⟩ dX6_readPart_41
    · have jc_60 := dk_neqc (k := 0) (by decide +kernel) c_60
      have qw_57_1 : (x_lv kd vl (ru).toInt 6).1 ((n0 : Int32).toNatClampNeg + 1) = some (y_58 : Int32).toNatClampNeg := by have h9 := w_57_1.2.1 (by omega); rw [nq_y_55] at h9; exact h9
      refine lv_aload_n hx hb dX6_readPart_27 rfl (lv_at hl 0 rfl) ?_
      refine lv_bipush (v := 41) hx hb dX6_readPart_28 (by decide +kernel) ?_
      refine dg_calli hS hA1 hA (va_runV (As := [.int 41]) (rest := []) F (c_rd_takeSign l g D o S_57 41 en kd vl y_58 f_y_58 (by omega) ke ((congrFun ((m_57.2 211 _ sX_211 (by decide)).1.trans (m_54.2 211 _ sX_211 (by decide)).1) _).trans f_ke) (by omega) (by omega) (fun k9 h9 => (congrFun ((m_57.2 211 _ sX_211 (by decide)).1.trans (m_54.2 211 _ sX_211 (by decide)).1) k9).trans (hkd k9 h9)) (fun k9 h9 => (congrFun ((m_57.2 213 _ sX_213 (by decide)).1.trans (m_54.2 213 _ sX_213 (by decide)).1) k9).trans (hvl k9 h9)) I_57 H.size) (cwV 1 hts (bw_V wB_152 wB_153 wB_154 wB_24 wB_151) rfl rfl rfl (by decide +kernel) ⟨Nat.le_of_ble_eq_true rfl, Nat.le_of_ble_eq_true rfl⟩) (dg_preV sX_209 rfl K ST hP hS hA1 hA) rfl rfl hl.1 rfl (lv_room (Nat.le_of_ble_eq_true rfl)) dX6_readPart_30 ⟨Nat.le_of_ble_eq_true rfl, Nat.le_of_ble_eq_true rfl⟩) (fun x_63 S_64 hw_64 H locs hP hS => ?_)
      obtain ⟨I_64, m_64, w_64_0, w_64_1, -⟩ := hw_64
      have M_64 := dg_sm.tr M_57 m_64 (by decide) (by decide)
      have hz_65 : (41 : Int32).toInt = 41 := by decide +kernel
      have w_64_0 : 0 ≤ (x_63).toInt ∧ (x_63).toInt ≤ 1 := w_64_0
      obtain ⟨y_66, f_y_66, w_64_1⟩ := w_64_1
      have w_64_1 : (y_66).toInt ≤ (en).toInt ∧ g_ans x_63 (g_tk kd vl ((41 : Int32)).toInt (y_58 : Int32).toNatClampNeg) (y_66 : Int32).toNatClampNeg := w_64_1
      have b_y_66 : 0 ≤ (y_66).toInt ∧ (y_66).toInt ≤ 1600 := dg_I.intb (lo := 0) (hi := 1600) I_64 sX_209 (by decide +kernel) f_y_66
      refine lv_if_eq (tgt := 40) hx hb dX6_readPart_33 (by decide) (fun c_67 => ?_) (fun c_67 => ?_)
      · have jc_67 := dk_eqc (k := 0) (by decide +kernel) c_67
        have qw_64_1 : g_tk kd vl 41 (y_58 : Int32).toNatClampNeg = none := by have h9 := w_64_1.2.2 (by omega); rw [show (41 : Int32).toInt = 41 from by decide +kernel] at h9; exact h9
        have qw_64_1s := g_tk_none qw_64_1
        refine lv_iconst (v := 0) hx hb dX6_readPart_40 (by decide +kernel) ?_
        have hz_68 : (0 : Int32).toInt = 0 := by decide +kernel
        have hz_69 : (0 : Int32).toInt = 0 := by decide +kernel
        refine W.widen (k := 0) (n := 0) (Nat.le_of_ble_eq_true rfl) (Nat.le_of_ble_eq_true rfl) ?_
        exact dg_iret hx hb hr hlocks (by decide +kernel) hP hS ⟨I_64, M_64, (by decide +kernel), ⟨y_66, y_59, f_y_66, ((m_64.1 209 7 _ sX_209 (by decide)).trans f_y_59), ⟨⟨by omega, by omega⟩, g_ans.n (by omega) (by simp [x_part, g_tk, qw_2_1, nq_y_55, qw_57_1, qw_64_1s])⟩⟩, trivial⟩ dX6_readPart_41
      · have jc_67 := dk_neqc (k := 0) (by decide +kernel) c_67
        have qw_64_1 : g_tk kd vl 41 (y_58 : Int32).toNatClampNeg = some (y_66 : Int32).toNatClampNeg := by have h9 := w_64_1.2.1 (by omega); rw [show (41 : Int32).toInt = 41 from by decide +kernel] at h9; exact h9
        have qw_64_1s := (g_tk_some qw_64_1).1
        have nq_y_66 : (y_66 : Int32).toNatClampNeg = (y_58 : Int32).toNatClampNeg + 1 := by have h9 := (g_tk_some qw_64_1).2; omega
        have ni_y_66 : (y_66).toInt = (y_58).toInt + 1 := by have h8 := dk_clN y_66; have h9 := dk_clN y_58; omega
        refine lv_iconst (v := 1) hx hb dX6_readPart_36 (by decide +kernel) ?_
        refine lv_goto (tgt := 41) hx hb dX6_readPart_37 (by decide) ?_
        have hz_70 : (1 : Int32).toInt = 1 := by decide +kernel
        have hz_71 : (1 : Int32).toInt = 1 := by decide +kernel
        refine W.widen (k := 0) (n := 0) (Nat.le_of_ble_eq_true rfl) (Nat.le_of_ble_eq_true rfl) ?_
        exact dg_iret hx hb hr hlocks (by decide +kernel) hP hS ⟨I_64, M_64, (by decide +kernel), ⟨y_66, y_59, f_y_66, ((m_64.1 209 7 _ sX_209 (by decide)).trans f_y_59), ⟨⟨by omega, by omega⟩, g_ans.y (by omega) (by simp [x_part, g_tk, qw_2_1, nq_y_55, qw_57_1, qw_64_1s, nq_y_66])⟩⟩, trivial⟩ dX6_readPart_41
set_option maxHeartbeats 8000000 in
set_option maxRecDepth 100000 in
theorem c_rd_readProduct_1 (l : Launch) (g : Nat → ClassId) (D : va_G) (o : Nat) (S : dg_S) (en : Int32) (kd : Nat → Int32) (vl : Nat → Int32) (n0 : Int32) (f_n0 : S.1 209 4 = .int n0) (b_n0 : 0 ≤ (n0).toInt ∧ (n0).toInt ≤ 1600) (ru : Int32) (f_ru : S.1 209 6 = .int ru) (b_ru : 0 ≤ (ru).toInt ∧ (ru).toInt ≤ 2) (sc : Int32) (f_sc : S.1 209 7 = .int sc) (b_sc : 0 ≤ (sc).toInt ∧ (sc).toInt ≤ 1600) (ke : Int32) (f_ke : S.2.1 211 (en : Int32).toNatClampNeg = ke) (b_ke : 0 ≤ (ke).toInt ∧ (ke).toInt ≤ 0) (hne : (n0).toInt ≤ (en).toInt ∧ (en).toInt ≤ 1600 ∧ 0 ≤ (en).toInt) (hkd : ∀ k9 : Nat, k9 ≤ (en : Int32).toNatClampNeg → S.2.1 211 k9 = kd k9) (hvl : ∀ k9 : Nat, k9 ≤ (en : Int32).toNatClampNeg → S.2.1 213 k9 = vl k9) (hsc : (sc).toInt ≤ (n0).toInt) (I : CX o S) (sz : Nat) : Met l yX6_readProduct (bw yX6_readProduct cX6_readProduct 5 (some .boolean)) ({ frames := 54, cells := 0, slots := 0, locals := 1239 } : Room) (dk_Pc g D (dg_w g shX o rfX S) sz [.ref (o + 209), .int 1]) (va_Qi (fun (r : Int32) S' => CX o S' ∧ dg_sm shX [(31, 0), (31, 1), (31, 4), (31, 7)] [28] S S' ∧ (0 ≤ (r).toInt ∧ (r).toInt ≤ 1) ∧ (∃ y9_4 y9_7 : Int32, S'.1 209 4 = .int y9_4 ∧ S'.1 209 7 = .int y9_7 ∧ (((y9_4).toInt ≤ (en).toInt ∧ ((r).toInt = 1 → ((sc).toInt + 1 ≤ (y9_7).toInt ∧ (y9_7).toInt - (sc).toInt ≤ (y9_4).toInt - (n0).toInt))) ∧ g_ans r (x_prod kd vl (x_part kd vl (ru).toInt (x_lv kd vl (ru).toInt 6).1 (x_lv kd vl (ru).toInt 6).2.1) (n0 : Int32).toNatClampNeg) (y9_4 : Int32).toNatClampNeg)) ∧ True) (dg_B g D shX o rfX) (dg_A o shX.length sz)) 0 0 (dg_A o shX.length sz) := by
  refine dg_met (cc := cX6_readProduct) (maxL := 5) (ret := (some .boolean)) (by decide) rfl (Nat.le_of_ble_eq_true rfl) ?_
  intro p e s m args below meth c A hAe harg hx hb hr hml hts hown hlocks hin hP K hS hA1 hA ST hsz ls hl
  rw [← hAe]
  have F : CallFix p m c cX6_readProduct 5 s args (bw yX6_readProduct cX6_readProduct 5 (some .boolean)) RX6 := ⟨hx, hb, hml, hown, hts⟩
  have hl : lv_has ls 5 [(0, .ref (o + 209)), (1, .int 1)] := hl
  have M_0 : dg_sm shX [(31, 0), (31, 1), (31, 4), (31, 7)] [28] S S := dg_sm.rf
  refine lv_aload_n hx hb dX6_readProduct_0 rfl (lv_at hl 0 rfl) ?_
  refine lv_iload_n hx hb dX6_readProduct_1 rfl (lv_at hl 1 rfl) ?_
  refine dg_calli hS hA1 hA (va_runV (As := [.int 1]) (rest := []) F (c_rd_readPart_1 l g D o S en kd vl n0 f_n0 (by omega) ru f_ru (by omega) sc f_sc (by omega) ke f_ke (by omega) (by omega) hkd hvl (by omega) I s.heap.size) (cwV 1 hts (bw_V wB_112 wB_113 wB_114 wB_24 wB_111) rfl rfl rfl (by decide +kernel) ⟨Nat.le_of_ble_eq_true rfl, Nat.le_of_ble_eq_true rfl⟩) (dg_preV sX_209 rfl K ST hP hS hA1 hA) rfl rfl hl.1 rfl (lv_room (Nat.le_of_ble_eq_true rfl)) dX6_readProduct_2 ⟨Nat.le_of_ble_eq_true rfl, Nat.le_of_ble_eq_true rfl⟩) (fun x_1 S_2 hw_2 H locs hP hS => ?_)
  obtain ⟨I_2, m_2, w_2_0, w_2_1, -⟩ := hw_2
  have M_2 := dg_sm.tr M_0 m_2 (by decide) (by decide)
  have w_2_0 : 0 ≤ (x_1).toInt ∧ (x_1).toInt ≤ 1 := w_2_0
  obtain ⟨y_3, y_4, f_y_3, f_y_4, w_2_1⟩ := w_2_1
  have w_2_1 : ((y_3).toInt ≤ (en).toInt ∧ ((x_1).toInt = 1 → ((sc).toInt + 1 ≤ (y_4).toInt ∧ (y_4).toInt - (sc).toInt ≤ (y_3).toInt - (n0).toInt))) ∧ g_ans x_1 (x_part kd vl (ru).toInt (x_lv kd vl (ru).toInt 6).1 (x_lv kd vl (ru).toInt 6).2.1 (n0 : Int32).toNatClampNeg) (y_3 : Int32).toNatClampNeg := w_2_1
  have b_y_3 : 0 ≤ (y_3).toInt ∧ (y_3).toInt ≤ 1600 := dg_I.intb (lo := 0) (hi := 1600) I_2 sX_209 (by decide +kernel) f_y_3
  have b_y_4 : 0 ≤ (y_4).toInt ∧ (y_4).toInt ≤ 1600 := dg_I.intb (lo := 0) (hi := 1600) I_2 sX_209 (by decide +kernel) f_y_4
  refine lv_istore_n (lv' := [(2, .int x_1), (0, .ref (o + 209)), (1, .int 1)]) hx hb dX6_readProduct_5 rfl hl (by decide) rfl (fun ls hl => ?_)
  refine lv_aload_n hx hb dX6_readProduct_6 rfl (lv_at hl 1 rfl) ?_
  refine dg_calli hS hA1 hA (va_runV (As := []) (rest := []) F (c_rd_productStep l g D o S_2 en kd vl y_3 f_y_3 (by omega) ke ((congrFun (m_2.2 211 _ sX_211 (by decide)).1 _).trans f_ke) (by omega) (by omega) (fun k9 h9 => (congrFun (m_2.2 211 _ sX_211 (by decide)).1 k9).trans (hkd k9 h9)) (fun k9 h9 => (congrFun (m_2.2 213 _ sX_213 (by decide)).1 k9).trans (hvl k9 h9)) I_2 H.size) (cwV 0 hts (bw_V wB_116 wB_117 wB_118 wB_24 wB_115) rfl rfl rfl (by decide +kernel) ⟨Nat.le_of_ble_eq_true rfl, Nat.le_of_ble_eq_true rfl⟩) (dg_preV sX_209 rfl K ST hP hS hA1 hA) rfl rfl hl.1 rfl (lv_room (Nat.le_of_ble_eq_true rfl)) dX6_readProduct_7 ⟨Nat.le_of_ble_eq_true rfl, Nat.le_of_ble_eq_true rfl⟩) (fun x_5 S_6 hw_6 H locs hP hS => ?_)
  rw [hw_6.1] at hP
  obtain ⟨hq_6, w_6_0, w_6_1, -⟩ := hw_6
  have w_6_0 : (-14) ≤ (x_5).toInt ∧ (x_5).toInt ≤ 0 := w_6_0
  have w_6_1 : (x_5).toInt ≠ 0 ↔ g_po kd vl (y_3 : Int32).toNatClampNeg = true := w_6_1
  refine lv_istore_n (lv' := [(3, .int x_5), (2, .int x_1), (0, .ref (o + 209)), (1, .int 1)]) hx hb dX6_readProduct_10 rfl hl (by decide) rfl (fun ls hl => ?_)
  refine lv_iconst (v := 0) hx hb dX6_readProduct_11 (by decide +kernel) ?_
  refine lv_istore (lv' := [(4, .int 0), (3, .int x_5), (2, .int x_1), (0, .ref (o + 209)), (1, .int 1)]) hx hb dX6_readProduct_12 hl (by decide) rfl (fun ls hl => ?_)
  have L_103 : ∀ (n : Nat) (x_97 : Int32) (x_98 : Int32) (x_99 : Int32) (x_100 : Int32) (x_101 : Int32), (0 ≤ (x_97).toInt ∧ (x_97).toInt ≤ 1600) → ((-14) ≤ (x_98).toInt ∧ (x_98).toInt ≤ 0) → (0 ≤ (x_99).toInt ∧ (x_99).toInt ≤ 1) → (0 ≤ (x_100).toInt ∧ (x_100).toInt ≤ 1600) → (0 ≤ (x_101).toInt ∧ (x_101).toInt ≤ 1600) → ((x_100).toInt ≤ (en).toInt) → ((1601 - (x_97).toInt).toNat < n) → ∀ S_102 : dg_S, CX o S_102 → dg_sm shX [(31, 0), (31, 1), (31, 4), (31, 7)] [28] S S_102 → S_102.1 209 4 = .int x_100 → S_102.1 209 7 = .int x_101 → (g_it x_99 (x_prod kd vl (x_part kd vl (ru).toInt (x_lv kd vl (ru).toInt 6).1 (x_lv kd vl (ru).toInt 6).2.1) (n0 : Int32).toNatClampNeg) (g_po kd vl) (x_part kd vl (ru).toInt (x_lv kd vl (ru).toInt 6).1 (x_lv kd vl (ru).toInt 6).2.1) (1600 - (x_97 : Int32).toInt).toNat (x_100 : Int32).toNatClampNeg) → ((x_98 : Int32).toInt ≠ 0 ↔ g_po kd vl (x_100 : Int32).toNatClampNeg = true) → (((x_99).toInt = 1 → ((sc).toInt + 1 ≤ (x_101).toInt ∧ (x_101).toInt - (sc).toInt ≤ (x_100).toInt - (n0).toInt))) → ∀ (H : Heap) (locs : List Loc), va_P D vwCl (dg_w g shX o rfX S_102) H → va_S A s.heap H locs → ∀ ls : Array Slot, lv_has ls 5 [(4, .int x_97), (3, .int x_98), (2, .int x_99), (0, .ref (o + 209)), (1, .int 1)] → W p l e ({ frames := 54, cells := 0, slots := 0, locals := 1239 } : Room) s m args below meth c H locs 0 0 (MQ below (va_Qi (fun (r : Int32) S' => CX o S' ∧ dg_sm shX [(31, 0), (31, 1), (31, 4), (31, 7)] [28] S S' ∧ (0 ≤ (r).toInt ∧ (r).toInt ≤ 1) ∧ (∃ y9_4 y9_7 : Int32, S'.1 209 4 = .int y9_4 ∧ S'.1 209 7 = .int y9_7 ∧ (((y9_4).toInt ≤ (en).toInt ∧ ((r).toInt = 1 → ((sc).toInt + 1 ≤ (y9_7).toInt ∧ (y9_7).toInt - (sc).toInt ≤ (y9_4).toInt - (n0).toInt))) ∧ g_ans r (x_prod kd vl (x_part kd vl (ru).toInt (x_lv kd vl (ru).toInt 6).1 (x_lv kd vl (ru).toInt 6).2.1) (n0 : Int32).toNatClampNeg) (y9_4 : Int32).toNatClampNeg)) ∧ True) (dg_B g D shX o rfX) A) args s 0 0 A) (F0 m 14 ls []) := by
    intro n
    induction n with
    | zero =>
      intro x_97 x_98 x_99 x_100 x_101 b_x_97 b_x_98 b_x_99 b_x_100 b_x_101 rel_0 hmu S_102 I_102 M_102 ff_102_4_209 ff_102_7_209 srel_102_0 srel_102_1 srel_102_2 H locs hP hS ls hl
      omega
    | succ n ih =>
      intro x_97 x_98 x_99 x_100 x_101 b_x_97 b_x_98 b_x_99 b_x_100 b_x_101 rel_0 hmu S_102 I_102 M_102 ff_102_4_209 ff_102_7_209 srel_102_0 srel_102_1 srel_102_2 H locs hP hS ls hl
      refine lv_iload hx hb dX6_readProduct_14 (lv_at hl 0 rfl) ?_
      refine lv_sipush (v := 1600) hx hb dX6_readProduct_16 (by decide +kernel) ?_
      refine lv_icmp_ge (tgt := 56) hx hb dX6_readProduct_19 (by decide) (fun c_104 => ?_) (fun c_104 => ?_)
      · have jc_104 := dk_gec (k := 1600) (by decide +kernel) c_104
        refine lv_iload_n hx hb dX6_readProduct_56 rfl (lv_at hl 2 rfl) ?_
        refine W.widen (k := 0) (n := 0) (Nat.le_of_ble_eq_true rfl) (Nat.le_of_ble_eq_true rfl) ?_
        exact dg_iret hx hb hr hlocks (dk_znar (by omega) (by omega)) hP hS ⟨I_102, M_102, (by omega), ⟨x_100, x_101, ff_102_4_209, ff_102_7_209, ⟨⟨by omega, by omega⟩, g_it.stop srel_102_0 (fun _ => Or.inl (by omega))⟩⟩, trivial⟩ dX6_readProduct_57
      · have jc_104 := dk_ngec (k := 1600) (by decide +kernel) c_104
        refine lv_iload_n hx hb dX6_readProduct_22 rfl (lv_at hl 2 rfl) ?_
        refine lv_if_eq (tgt := 56) hx hb dX6_readProduct_23 (by decide) (fun c_105 => ?_) (fun c_105 => ?_)
        · have jc_105 := dk_eqc (k := 0) (by decide +kernel) c_105
          refine lv_iload_n hx hb dX6_readProduct_56 rfl (lv_at hl 2 rfl) ?_
          refine W.widen (k := 0) (n := 0) (Nat.le_of_ble_eq_true rfl) (Nat.le_of_ble_eq_true rfl) ?_
          exact dg_iret hx hb hr hlocks (dk_znar (by omega) (by omega)) hP hS ⟨I_102, M_102, (by omega), ⟨x_100, x_101, ff_102_4_209, ff_102_7_209, ⟨⟨by omega, by omega⟩, g_it.stop srel_102_0 (fun h9 => absurd h9 (by omega))⟩⟩, trivial⟩ dX6_readProduct_57
        · have jc_105 := dk_neqc (k := 0) (by decide +kernel) c_105
          refine lv_iload_n hx hb dX6_readProduct_26 rfl (lv_at hl 1 rfl) ?_
          refine lv_if_eq (tgt := 56) hx hb dX6_readProduct_27 (by decide) (fun c_106 => ?_) (fun c_106 => ?_)
          · have jc_106 := dk_eqc (k := 0) (by decide +kernel) c_106
            have qsrel_102_1 : g_po kd vl (x_100 : Int32).toNatClampNeg = false := by have h9 := g_iff_f srel_102_1 (by omega); exact h9
            refine lv_iload_n hx hb dX6_readProduct_56 rfl (lv_at hl 2 rfl) ?_
            refine W.widen (k := 0) (n := 0) (Nat.le_of_ble_eq_true rfl) (Nat.le_of_ble_eq_true rfl) ?_
            exact dg_iret hx hb hr hlocks (dk_znar (by omega) (by omega)) hP hS ⟨I_102, M_102, (by omega), ⟨x_100, x_101, ff_102_4_209, ff_102_7_209, ⟨⟨by omega, by omega⟩, g_it.stop srel_102_0 (fun _ => Or.inr qsrel_102_1)⟩⟩, trivial⟩ dX6_readProduct_57
          · have jc_106 := dk_neqc (k := 0) (by decide +kernel) c_106
            have qsrel_102_1 : g_po kd vl (x_100 : Int32).toNatClampNeg = true := by have h9 := srel_102_1.mp (by omega); exact h9
            refine lv_aload_n hx hb dX6_readProduct_30 rfl (lv_at hl 3 rfl) ?_
            refine dg_callv hS hA1 hA (va_runV (As := []) (rest := []) F (c_rd_pass l g D o S_102 en kd vl x_100 ff_102_4_209 (by omega) ke ((congrFun (M_102.2 211 _ sX_211 (by decide)).1 _).trans f_ke) (by omega) (by omega) (fun k9 h9 => (congrFun (M_102.2 211 _ sX_211 (by decide)).1 k9).trans (hkd k9 h9)) (fun k9 h9 => (congrFun (M_102.2 213 _ sX_213 (by decide)).1 k9).trans (hvl k9 h9)) I_102 H.size) (cwV 0 hts (bw_V wB_26 wB_27 wB_28 wB_24 wB_25) rfl rfl rfl (by decide +kernel) ⟨Nat.le_of_ble_eq_true rfl, Nat.le_of_ble_eq_true rfl⟩) (dg_preV sX_209 rfl K ST hP hS hA1 hA) rfl rfl hl.1 rfl (lv_room (Nat.le_of_ble_eq_true rfl)) dX6_readProduct_31 ⟨Nat.le_of_ble_eq_true rfl, Nat.le_of_ble_eq_true rfl⟩) (fun S_107 hw_107 H locs hP hS => ?_)
            obtain ⟨I_107, m_107, w_107_0, -⟩ := hw_107
            have M_107 := dg_sm.tr M_102 m_107 (by decide) (by decide)
            obtain ⟨y_108, f_y_108, w_107_0⟩ := w_107_0
            have w_107_0 : (y_108).toInt ≤ (en).toInt ∧ ((kd (x_100 : Int32).toNatClampNeg).toInt ≠ 0 → (y_108 : Int32).toNatClampNeg = (x_100 : Int32).toNatClampNeg + 1) := w_107_0
            have b_y_108 : 0 ≤ (y_108).toInt ∧ (y_108).toInt ≤ 1600 := dg_I.intb (lo := 0) (hi := 1600) I_107 sX_209 (by decide +kernel) f_y_108
            have nq_y_108 : (y_108 : Int32).toNatClampNeg = (x_100 : Int32).toNatClampNeg + 1 := by have h9 := w_107_0.2 (g_po_ne qsrel_102_1); omega
            have ni_y_108 : (y_108).toInt = (x_100).toInt + 1 := by have h8 := dk_clN y_108; have h9 := dk_clN x_100; omega
            refine lv_aload_n hx hb dX6_readProduct_34 rfl (lv_at hl 3 rfl) ?_
            refine lv_iload_n hx hb dX6_readProduct_35 rfl (lv_at hl 4 rfl) ?_
            refine dg_calli hS hA1 hA (va_runV (As := [.int 1]) (rest := []) F (c_rd_readPart_1 l g D o S_107 en kd vl y_108 f_y_108 (by omega) ru (((m_107.1 209 6 _ sX_209 (by decide)).trans (M_102.1 209 6 _ sX_209 (by decide))).trans f_ru) (by omega) x_101 ((m_107.1 209 7 _ sX_209 (by decide)).trans ff_102_7_209) (by omega) ke ((congrFun ((m_107.2 211 _ sX_211 (by decide)).1.trans (M_102.2 211 _ sX_211 (by decide)).1) _).trans f_ke) (by omega) (by omega) (fun k9 h9 => (congrFun ((m_107.2 211 _ sX_211 (by decide)).1.trans (M_102.2 211 _ sX_211 (by decide)).1) k9).trans (hkd k9 h9)) (fun k9 h9 => (congrFun ((m_107.2 213 _ sX_213 (by decide)).1.trans (M_102.2 213 _ sX_213 (by decide)).1) k9).trans (hvl k9 h9)) (by omega) I_107 H.size) (cwV 1 hts (bw_V wB_112 wB_113 wB_114 wB_24 wB_111) rfl rfl rfl (by decide +kernel) ⟨Nat.le_of_ble_eq_true rfl, Nat.le_of_ble_eq_true rfl⟩) (dg_preV sX_209 rfl K ST hP hS hA1 hA) rfl rfl hl.1 rfl (lv_room (Nat.le_of_ble_eq_true rfl)) dX6_readProduct_36 ⟨Nat.le_of_ble_eq_true rfl, Nat.le_of_ble_eq_true rfl⟩) (fun x_109 S_110 hw_110 H locs hP hS => ?_)
            obtain ⟨I_110, m_110, w_110_0, w_110_1, -⟩ := hw_110
            have M_110 := dg_sm.tr M_107 m_110 (by decide) (by decide)
            have w_110_0 : 0 ≤ (x_109).toInt ∧ (x_109).toInt ≤ 1 := w_110_0
            obtain ⟨y_111, y_112, f_y_111, f_y_112, w_110_1⟩ := w_110_1
            have w_110_1 : ((y_111).toInt ≤ (en).toInt ∧ ((x_109).toInt = 1 → ((x_101).toInt + 1 ≤ (y_112).toInt ∧ (y_112).toInt - (x_101).toInt ≤ (y_111).toInt - (y_108).toInt))) ∧ g_ans x_109 (x_part kd vl (ru).toInt (x_lv kd vl (ru).toInt 6).1 (x_lv kd vl (ru).toInt 6).2.1 (y_108 : Int32).toNatClampNeg) (y_111 : Int32).toNatClampNeg := w_110_1
            have b_y_111 : 0 ≤ (y_111).toInt ∧ (y_111).toInt ≤ 1600 := dg_I.intb (lo := 0) (hi := 1600) I_110 sX_209 (by decide +kernel) f_y_111
            have b_y_112 : 0 ≤ (y_112).toInt ∧ (y_112).toInt ≤ 1600 := dg_I.intb (lo := 0) (hi := 1600) I_110 sX_209 (by decide +kernel) f_y_112
            refine lv_istore_n (lv' := [(2, .int x_109), (4, .int x_97), (3, .int x_98), (0, .ref (o + 209)), (1, .int 1)]) hx hb dX6_readProduct_39 rfl hl (by decide) rfl (fun ls hl => ?_)
            refine lv_aload_n hx hb dX6_readProduct_40 rfl (lv_at hl 3 rfl) ?_
            refine lv_iload_n hx hb dX6_readProduct_41 rfl (lv_at hl 2 rfl) ?_
            refine dg_callv hS hA1 hA (va_runV (As := [.int x_98]) (rest := []) F (c_rd_put l g D o S_110 x_98 en y_111 f_y_111 (by omega) y_112 f_y_112 (by omega) ke ((congrFun ((m_110.2 211 _ sX_211 (by decide)).1.trans ((m_107.2 211 _ sX_211 (by decide)).1.trans (M_102.2 211 _ sX_211 (by decide)).1)) _).trans f_ke) (by omega) (by omega) I_110 H.size) (cwV 1 hts (bw_V wB_96 wB_97 wB_98 wB_24 wB_95) rfl rfl rfl (by decide +kernel) ⟨Nat.le_of_ble_eq_true rfl, Nat.le_of_ble_eq_true rfl⟩) (dg_preV sX_209 rfl K ST hP hS hA1 hA) rfl rfl hl.1 rfl (lv_room (Nat.le_of_ble_eq_true rfl)) dX6_readProduct_42 ⟨Nat.le_of_ble_eq_true rfl, Nat.le_of_ble_eq_true rfl⟩) (fun S_113 hw_113 H locs hP hS => ?_)
            obtain ⟨I_113, m_113, w_113_0, -⟩ := hw_113
            have M_113 := dg_sm.tr M_110 m_113 (by decide) (by decide)
            obtain ⟨y_114, f_y_114, w_113_0⟩ := w_113_0
            have w_113_0 : (y_112).toInt < 1600 → (y_114).toInt = (y_112).toInt + 1 := w_113_0
            have b_y_114 : 0 ≤ (y_114).toInt ∧ (y_114).toInt ≤ 1600 := dg_I.intb (lo := 0) (hi := 1600) I_113 sX_209 (by decide +kernel) f_y_114
            refine lv_aload_n hx hb dX6_readProduct_45 rfl (lv_at hl 3 rfl) ?_
            refine dg_calli hS hA1 hA (va_runV (As := []) (rest := []) F (c_rd_productStep l g D o S_113 en kd vl y_111 ((m_113.1 209 4 _ sX_209 (by decide)).trans f_y_111) (by omega) ke ((congrFun ((m_113.2 211 _ sX_211 (by decide)).1.trans ((m_110.2 211 _ sX_211 (by decide)).1.trans ((m_107.2 211 _ sX_211 (by decide)).1.trans (M_102.2 211 _ sX_211 (by decide)).1))) _).trans f_ke) (by omega) (by omega) (fun k9 h9 => (congrFun ((m_113.2 211 _ sX_211 (by decide)).1.trans ((m_110.2 211 _ sX_211 (by decide)).1.trans ((m_107.2 211 _ sX_211 (by decide)).1.trans (M_102.2 211 _ sX_211 (by decide)).1))) k9).trans (hkd k9 h9)) (fun k9 h9 => (congrFun ((m_113.2 213 _ sX_213 (by decide)).1.trans ((m_110.2 213 _ sX_213 (by decide)).1.trans ((m_107.2 213 _ sX_213 (by decide)).1.trans (M_102.2 213 _ sX_213 (by decide)).1))) k9).trans (hvl k9 h9)) I_113 H.size) (cwV 0 hts (bw_V wB_116 wB_117 wB_118 wB_24 wB_115) rfl rfl rfl (by decide +kernel) ⟨Nat.le_of_ble_eq_true rfl, Nat.le_of_ble_eq_true rfl⟩) (dg_preV sX_209 rfl K ST hP hS hA1 hA) rfl rfl hl.1 rfl (lv_room (Nat.le_of_ble_eq_true rfl)) dX6_readProduct_46 ⟨Nat.le_of_ble_eq_true rfl, Nat.le_of_ble_eq_true rfl⟩) (fun x_115 S_116 hw_116 H locs hP hS => ?_)
            rw [hw_116.1] at hP
            obtain ⟨hq_116, w_116_0, w_116_1, -⟩ := hw_116
            have w_116_0 : (-14) ≤ (x_115).toInt ∧ (x_115).toInt ≤ 0 := w_116_0
            have w_116_1 : (x_115).toInt ≠ 0 ↔ g_po kd vl (y_111 : Int32).toNatClampNeg = true := w_116_1
            refine lv_istore_n (lv' := [(3, .int x_115), (2, .int x_109), (4, .int x_97), (0, .ref (o + 209)), (1, .int 1)]) hx hb dX6_readProduct_49 rfl hl (by decide) rfl (fun ls hl => ?_)
            obtain ⟨x_117, ex_117⟩ : ∃ z, z = x_97 + 1 := ⟨_, rfl⟩
            have jx_117 : (x_117).toInt = (x_97).toInt + 1 := by rw [ex_117]; exact dk_addT rfl (by decide +kernel) (by omega) (by omega)
            refine lv_iinc (v := x_117) (lv' := [(4, .int x_117), (3, .int x_115), (2, .int x_109), (0, .ref (o + 209)), (1, .int 1)]) hx hb dX6_readProduct_50 hl (k := 2) rfl (by rw [ex_117]; rfl) (by decide) rfl (fun ls hl => ?_)
            refine lv_goto (tgt := 14) hx hb dX6_readProduct_53 (by decide) ?_
            exact ih x_117 x_115 x_109 y_111 y_114 (by omega) (by omega) (by omega) (by omega) (by omega) (by omega) (by omega) S_113 I_113 M_113 ((m_113.1 209 4 _ sX_209 (by decide)).trans f_y_111) f_y_114 (g_it.step srel_102_0 (by omega) (by omega) qsrel_102_1 (by have h9 := w_110_1.2; rw [nq_y_108] at h9; exact h9)) w_116_1 (by omega) _ _ hP hS _ (lv_sub hl [0, 1, 2, 3, 4] rfl)
  have hz_118 : (0 : Int32).toInt = 0 := by decide +kernel
  have hz_119 : (0 : Int32).toInt = 0 := by decide +kernel
  have hz_120 : (0 : Int32).toInt = 0 := by decide +kernel
  exact L_103 ((1601 - ((0 : Int32)).toInt).toNat + 1) 0 x_5 x_1 y_3 y_4 (by decide +kernel) (by omega) (by omega) (by omega) (by omega) (by omega) (by omega) S_2 I_2 M_2 f_y_3 f_y_4 (by rw [show (1600 - (0 : Int32).toInt).toNat = 1600 from by decide +kernel]; exact g_it.start w_2_1.2) w_6_1 (by omega) _ _ hP hS _ (lv_sub hl [0, 1, 2, 3, 4] rfl)
set_option maxHeartbeats 8000000 in
set_option maxRecDepth 100000 in
theorem c_rd_readSum_1 (l : Launch) (g : Nat → ClassId) (D : va_G) (o : Nat) (S : dg_S) (en : Int32) (kd : Nat → Int32) (vl : Nat → Int32) (n0 : Int32) (f_n0 : S.1 209 4 = .int n0) (b_n0 : 0 ≤ (n0).toInt ∧ (n0).toInt ≤ 1600) (ru : Int32) (f_ru : S.1 209 6 = .int ru) (b_ru : 0 ≤ (ru).toInt ∧ (ru).toInt ≤ 2) (sc : Int32) (f_sc : S.1 209 7 = .int sc) (b_sc : 0 ≤ (sc).toInt ∧ (sc).toInt ≤ 1600) (ke : Int32) (f_ke : S.2.1 211 (en : Int32).toNatClampNeg = ke) (b_ke : 0 ≤ (ke).toInt ∧ (ke).toInt ≤ 0) (hne : (n0).toInt ≤ (en).toInt ∧ (en).toInt ≤ 1600 ∧ 0 ≤ (en).toInt) (hkd : ∀ k9 : Nat, k9 ≤ (en : Int32).toNatClampNeg → S.2.1 211 k9 = kd k9) (hvl : ∀ k9 : Nat, k9 ≤ (en : Int32).toNatClampNeg → S.2.1 213 k9 = vl k9) (hsc : (sc).toInt ≤ (n0).toInt) (I : CX o S) (sz : Nat) : Met l yX6_readSum (bw yX6_readSum cX6_readSum 5 (some .boolean)) ({ frames := 55, cells := 0, slots := 0, locals := 1263 } : Room) (dk_Pc g D (dg_w g shX o rfX S) sz [.ref (o + 209), .int 1]) (va_Qi (fun (r : Int32) S' => CX o S' ∧ dg_sm shX [(31, 0), (31, 1), (31, 4), (31, 7)] [28] S S' ∧ (0 ≤ (r).toInt ∧ (r).toInt ≤ 1) ∧ (∃ y9_4 y9_7 : Int32, S'.1 209 4 = .int y9_4 ∧ S'.1 209 7 = .int y9_7 ∧ (((y9_4).toInt ≤ (en).toInt ∧ ((r).toInt = 1 → ((sc).toInt + 1 ≤ (y9_7).toInt ∧ (y9_7).toInt - (sc).toInt ≤ (y9_4).toInt - (n0).toInt))) ∧ g_ans r ((x_lv kd vl (ru).toInt 7).1 (n0 : Int32).toNatClampNeg) (y9_4 : Int32).toNatClampNeg)) ∧ True) (dg_B g D shX o rfX) (dg_A o shX.length sz)) 0 0 (dg_A o shX.length sz) := by
  refine dg_met (cc := cX6_readSum) (maxL := 5) (ret := (some .boolean)) (by decide) rfl (Nat.le_of_ble_eq_true rfl) ?_
  intro p e s m args below meth c A hAe harg hx hb hr hml hts hown hlocks hin hP K hS hA1 hA ST hsz ls hl
  rw [← hAe]
  have F : CallFix p m c cX6_readSum 5 s args (bw yX6_readSum cX6_readSum 5 (some .boolean)) RX6 := ⟨hx, hb, hml, hown, hts⟩
  have hl : lv_has ls 5 [(0, .ref (o + 209)), (1, .int 1)] := hl
  have M_0 : dg_sm shX [(31, 0), (31, 1), (31, 4), (31, 7)] [28] S S := dg_sm.rf
  refine lv_aload_n hx hb dX6_readSum_0 rfl (lv_at hl 0 rfl) ?_
  refine lv_iload_n hx hb dX6_readSum_1 rfl (lv_at hl 1 rfl) ?_
  refine dg_calli hS hA1 hA (va_runV (As := [.int 1]) (rest := []) F (c_rd_readProduct_1 l g D o S en kd vl n0 f_n0 (by omega) ru f_ru (by omega) sc f_sc (by omega) ke f_ke (by omega) (by omega) hkd hvl (by omega) I s.heap.size) (cwV 1 hts (bw_V wB_120 wB_121 wB_122 wB_24 wB_119) rfl rfl rfl (by decide +kernel) ⟨Nat.le_of_ble_eq_true rfl, Nat.le_of_ble_eq_true rfl⟩) (dg_preV sX_209 rfl K ST hP hS hA1 hA) rfl rfl hl.1 rfl (lv_room (Nat.le_of_ble_eq_true rfl)) dX6_readSum_2 ⟨Nat.le_of_ble_eq_true rfl, Nat.le_of_ble_eq_true rfl⟩) (fun x_1 S_2 hw_2 H locs hP hS => ?_)
  obtain ⟨I_2, m_2, w_2_0, w_2_1, -⟩ := hw_2
  have M_2 := dg_sm.tr M_0 m_2 (by decide) (by decide)
  have w_2_0 : 0 ≤ (x_1).toInt ∧ (x_1).toInt ≤ 1 := w_2_0
  obtain ⟨y_3, y_4, f_y_3, f_y_4, w_2_1⟩ := w_2_1
  have w_2_1 : ((y_3).toInt ≤ (en).toInt ∧ ((x_1).toInt = 1 → ((sc).toInt + 1 ≤ (y_4).toInt ∧ (y_4).toInt - (sc).toInt ≤ (y_3).toInt - (n0).toInt))) ∧ g_ans x_1 (x_prod kd vl (x_part kd vl (ru).toInt (x_lv kd vl (ru).toInt 6).1 (x_lv kd vl (ru).toInt 6).2.1) (n0 : Int32).toNatClampNeg) (y_3 : Int32).toNatClampNeg := w_2_1
  have b_y_3 : 0 ≤ (y_3).toInt ∧ (y_3).toInt ≤ 1600 := dg_I.intb (lo := 0) (hi := 1600) I_2 sX_209 (by decide +kernel) f_y_3
  have b_y_4 : 0 ≤ (y_4).toInt ∧ (y_4).toInt ≤ 1600 := dg_I.intb (lo := 0) (hi := 1600) I_2 sX_209 (by decide +kernel) f_y_4
  refine lv_istore_n (lv' := [(2, .int x_1), (0, .ref (o + 209)), (1, .int 1)]) hx hb dX6_readSum_5 rfl hl (by decide) rfl (fun ls hl => ?_)
  refine lv_aload_n hx hb dX6_readSum_6 rfl (lv_at hl 1 rfl) ?_
  refine dg_calli hS hA1 hA (va_runV (As := []) (rest := []) F (c_rd_sumStep l g D o S_2 en kd vl y_3 f_y_3 (by omega) ke ((congrFun (m_2.2 211 _ sX_211 (by decide)).1 _).trans f_ke) (by omega) (by omega) (fun k9 h9 => (congrFun (m_2.2 211 _ sX_211 (by decide)).1 k9).trans (hkd k9 h9)) (fun k9 h9 => (congrFun (m_2.2 213 _ sX_213 (by decide)).1 k9).trans (hvl k9 h9)) I_2 H.size) (cwV 0 hts (bw_V wB_124 wB_125 wB_126 wB_24 wB_123) rfl rfl rfl (by decide +kernel) ⟨Nat.le_of_ble_eq_true rfl, Nat.le_of_ble_eq_true rfl⟩) (dg_preV sX_209 rfl K ST hP hS hA1 hA) rfl rfl hl.1 rfl (lv_room (Nat.le_of_ble_eq_true rfl)) dX6_readSum_7 ⟨Nat.le_of_ble_eq_true rfl, Nat.le_of_ble_eq_true rfl⟩) (fun x_5 S_6 hw_6 H locs hP hS => ?_)
  rw [hw_6.1] at hP
  obtain ⟨hq_6, w_6_0, w_6_1, -⟩ := hw_6
  have w_6_0 : (-11) ≤ (x_5).toInt ∧ (x_5).toInt ≤ 0 := w_6_0
  have w_6_1 : (x_5).toInt ≠ 0 ↔ g_so kd vl (y_3 : Int32).toNatClampNeg = true := w_6_1
  refine lv_istore_n (lv' := [(3, .int x_5), (2, .int x_1), (0, .ref (o + 209)), (1, .int 1)]) hx hb dX6_readSum_10 rfl hl (by decide) rfl (fun ls hl => ?_)
  refine lv_iconst (v := 0) hx hb dX6_readSum_11 (by decide +kernel) ?_
  refine lv_istore (lv' := [(4, .int 0), (3, .int x_5), (2, .int x_1), (0, .ref (o + 209)), (1, .int 1)]) hx hb dX6_readSum_12 hl (by decide) rfl (fun ls hl => ?_)
  have L_103 : ∀ (n : Nat) (x_97 : Int32) (x_98 : Int32) (x_99 : Int32) (x_100 : Int32) (x_101 : Int32), (0 ≤ (x_97).toInt ∧ (x_97).toInt ≤ 1600) → ((-11) ≤ (x_98).toInt ∧ (x_98).toInt ≤ 0) → (0 ≤ (x_99).toInt ∧ (x_99).toInt ≤ 1) → (0 ≤ (x_100).toInt ∧ (x_100).toInt ≤ 1600) → (0 ≤ (x_101).toInt ∧ (x_101).toInt ≤ 1600) → ((x_100).toInt ≤ (en).toInt) → ((1601 - (x_97).toInt).toNat < n) → ∀ S_102 : dg_S, CX o S_102 → dg_sm shX [(31, 0), (31, 1), (31, 4), (31, 7)] [28] S S_102 → S_102.1 209 4 = .int x_100 → S_102.1 209 7 = .int x_101 → (g_it x_99 (x_sum kd vl (x_part kd vl (ru).toInt (x_lv kd vl (ru).toInt 6).1 (x_lv kd vl (ru).toInt 6).2.1) (n0 : Int32).toNatClampNeg) (g_so kd vl) (x_prod kd vl (x_part kd vl (ru).toInt (x_lv kd vl (ru).toInt 6).1 (x_lv kd vl (ru).toInt 6).2.1)) (1600 - (x_97 : Int32).toInt).toNat (x_100 : Int32).toNatClampNeg) → ((x_98 : Int32).toInt ≠ 0 ↔ g_so kd vl (x_100 : Int32).toNatClampNeg = true) → (((x_99).toInt = 1 → ((sc).toInt + 1 ≤ (x_101).toInt ∧ (x_101).toInt - (sc).toInt ≤ (x_100).toInt - (n0).toInt))) → ∀ (H : Heap) (locs : List Loc), va_P D vwCl (dg_w g shX o rfX S_102) H → va_S A s.heap H locs → ∀ ls : Array Slot, lv_has ls 5 [(4, .int x_97), (3, .int x_98), (2, .int x_99), (0, .ref (o + 209)), (1, .int 1)] → W p l e ({ frames := 55, cells := 0, slots := 0, locals := 1263 } : Room) s m args below meth c H locs 0 0 (MQ below (va_Qi (fun (r : Int32) S' => CX o S' ∧ dg_sm shX [(31, 0), (31, 1), (31, 4), (31, 7)] [28] S S' ∧ (0 ≤ (r).toInt ∧ (r).toInt ≤ 1) ∧ (∃ y9_4 y9_7 : Int32, S'.1 209 4 = .int y9_4 ∧ S'.1 209 7 = .int y9_7 ∧ (((y9_4).toInt ≤ (en).toInt ∧ ((r).toInt = 1 → ((sc).toInt + 1 ≤ (y9_7).toInt ∧ (y9_7).toInt - (sc).toInt ≤ (y9_4).toInt - (n0).toInt))) ∧ g_ans r ((x_lv kd vl (ru).toInt 7).1 (n0 : Int32).toNatClampNeg) (y9_4 : Int32).toNatClampNeg)) ∧ True) (dg_B g D shX o rfX) A) args s 0 0 A) (F0 m 14 ls []) := by
    intro n
    induction n with
    | zero =>
      intro x_97 x_98 x_99 x_100 x_101 b_x_97 b_x_98 b_x_99 b_x_100 b_x_101 rel_0 hmu S_102 I_102 M_102 ff_102_4_209 ff_102_7_209 srel_102_0 srel_102_1 srel_102_2 H locs hP hS ls hl
      omega
    | succ n ih =>
      intro x_97 x_98 x_99 x_100 x_101 b_x_97 b_x_98 b_x_99 b_x_100 b_x_101 rel_0 hmu S_102 I_102 M_102 ff_102_4_209 ff_102_7_209 srel_102_0 srel_102_1 srel_102_2 H locs hP hS ls hl
      refine lv_iload hx hb dX6_readSum_14 (lv_at hl 0 rfl) ?_
      refine lv_sipush (v := 1600) hx hb dX6_readSum_16 (by decide +kernel) ?_
      refine lv_icmp_ge (tgt := 56) hx hb dX6_readSum_19 (by decide) (fun c_104 => ?_) (fun c_104 => ?_)
      · have jc_104 := dk_gec (k := 1600) (by decide +kernel) c_104
        refine lv_iload_n hx hb dX6_readSum_56 rfl (lv_at hl 2 rfl) ?_
        refine W.widen (k := 0) (n := 0) (Nat.le_of_ble_eq_true rfl) (Nat.le_of_ble_eq_true rfl) ?_
        exact dg_iret hx hb hr hlocks (dk_znar (by omega) (by omega)) hP hS ⟨I_102, M_102, (by omega), ⟨x_100, x_101, ff_102_4_209, ff_102_7_209, ⟨⟨by omega, by omega⟩, (show g_ans x_99 (x_sum kd vl (x_part kd vl (ru).toInt (x_lv kd vl (ru).toInt 6).1 (x_lv kd vl (ru).toInt 6).2.1) (n0 : Int32).toNatClampNeg) (x_100 : Int32).toNatClampNeg from g_it.stop srel_102_0 (fun _ => Or.inl (by omega)))⟩⟩, trivial⟩ dX6_readSum_57
      · have jc_104 := dk_ngec (k := 1600) (by decide +kernel) c_104
        refine lv_iload_n hx hb dX6_readSum_22 rfl (lv_at hl 2 rfl) ?_
        refine lv_if_eq (tgt := 56) hx hb dX6_readSum_23 (by decide) (fun c_105 => ?_) (fun c_105 => ?_)
        · have jc_105 := dk_eqc (k := 0) (by decide +kernel) c_105
          refine lv_iload_n hx hb dX6_readSum_56 rfl (lv_at hl 2 rfl) ?_
          refine W.widen (k := 0) (n := 0) (Nat.le_of_ble_eq_true rfl) (Nat.le_of_ble_eq_true rfl) ?_
          exact dg_iret hx hb hr hlocks (dk_znar (by omega) (by omega)) hP hS ⟨I_102, M_102, (by omega), ⟨x_100, x_101, ff_102_4_209, ff_102_7_209, ⟨⟨by omega, by omega⟩, (show g_ans x_99 (x_sum kd vl (x_part kd vl (ru).toInt (x_lv kd vl (ru).toInt 6).1 (x_lv kd vl (ru).toInt 6).2.1) (n0 : Int32).toNatClampNeg) (x_100 : Int32).toNatClampNeg from g_it.stop srel_102_0 (fun h9 => absurd h9 (by omega)))⟩⟩, trivial⟩ dX6_readSum_57
        · have jc_105 := dk_neqc (k := 0) (by decide +kernel) c_105
          refine lv_iload_n hx hb dX6_readSum_26 rfl (lv_at hl 1 rfl) ?_
          refine lv_if_eq (tgt := 56) hx hb dX6_readSum_27 (by decide) (fun c_106 => ?_) (fun c_106 => ?_)
          · have jc_106 := dk_eqc (k := 0) (by decide +kernel) c_106
            have qsrel_102_1 : g_so kd vl (x_100 : Int32).toNatClampNeg = false := by have h9 := g_iff_f srel_102_1 (by omega); exact h9
            refine lv_iload_n hx hb dX6_readSum_56 rfl (lv_at hl 2 rfl) ?_
            refine W.widen (k := 0) (n := 0) (Nat.le_of_ble_eq_true rfl) (Nat.le_of_ble_eq_true rfl) ?_
            exact dg_iret hx hb hr hlocks (dk_znar (by omega) (by omega)) hP hS ⟨I_102, M_102, (by omega), ⟨x_100, x_101, ff_102_4_209, ff_102_7_209, ⟨⟨by omega, by omega⟩, (show g_ans x_99 (x_sum kd vl (x_part kd vl (ru).toInt (x_lv kd vl (ru).toInt 6).1 (x_lv kd vl (ru).toInt 6).2.1) (n0 : Int32).toNatClampNeg) (x_100 : Int32).toNatClampNeg from g_it.stop srel_102_0 (fun _ => Or.inr qsrel_102_1))⟩⟩, trivial⟩ dX6_readSum_57
          · have jc_106 := dk_neqc (k := 0) (by decide +kernel) c_106
            have qsrel_102_1 : g_so kd vl (x_100 : Int32).toNatClampNeg = true := by have h9 := srel_102_1.mp (by omega); exact h9
            refine lv_aload_n hx hb dX6_readSum_30 rfl (lv_at hl 3 rfl) ?_
            refine dg_callv hS hA1 hA (va_runV (As := []) (rest := []) F (c_rd_pass l g D o S_102 en kd vl x_100 ff_102_4_209 (by omega) ke ((congrFun (M_102.2 211 _ sX_211 (by decide)).1 _).trans f_ke) (by omega) (by omega) (fun k9 h9 => (congrFun (M_102.2 211 _ sX_211 (by decide)).1 k9).trans (hkd k9 h9)) (fun k9 h9 => (congrFun (M_102.2 213 _ sX_213 (by decide)).1 k9).trans (hvl k9 h9)) I_102 H.size) (cwV 0 hts (bw_V wB_26 wB_27 wB_28 wB_24 wB_25) rfl rfl rfl (by decide +kernel) ⟨Nat.le_of_ble_eq_true rfl, Nat.le_of_ble_eq_true rfl⟩) (dg_preV sX_209 rfl K ST hP hS hA1 hA) rfl rfl hl.1 rfl (lv_room (Nat.le_of_ble_eq_true rfl)) dX6_readSum_31 ⟨Nat.le_of_ble_eq_true rfl, Nat.le_of_ble_eq_true rfl⟩) (fun S_107 hw_107 H locs hP hS => ?_)
            obtain ⟨I_107, m_107, w_107_0, -⟩ := hw_107
            have M_107 := dg_sm.tr M_102 m_107 (by decide) (by decide)
            obtain ⟨y_108, f_y_108, w_107_0⟩ := w_107_0
            have w_107_0 : (y_108).toInt ≤ (en).toInt ∧ ((kd (x_100 : Int32).toNatClampNeg).toInt ≠ 0 → (y_108 : Int32).toNatClampNeg = (x_100 : Int32).toNatClampNeg + 1) := w_107_0
            have b_y_108 : 0 ≤ (y_108).toInt ∧ (y_108).toInt ≤ 1600 := dg_I.intb (lo := 0) (hi := 1600) I_107 sX_209 (by decide +kernel) f_y_108
            have nq_y_108 : (y_108 : Int32).toNatClampNeg = (x_100 : Int32).toNatClampNeg + 1 := by have h9 := w_107_0.2 (g_so_ne qsrel_102_1); omega
            have ni_y_108 : (y_108).toInt = (x_100).toInt + 1 := by have h8 := dk_clN y_108; have h9 := dk_clN x_100; omega
            refine lv_aload_n hx hb dX6_readSum_34 rfl (lv_at hl 3 rfl) ?_
            refine lv_iload_n hx hb dX6_readSum_35 rfl (lv_at hl 4 rfl) ?_
            refine dg_calli hS hA1 hA (va_runV (As := [.int 1]) (rest := []) F (c_rd_readProduct_1 l g D o S_107 en kd vl y_108 f_y_108 (by omega) ru (((m_107.1 209 6 _ sX_209 (by decide)).trans (M_102.1 209 6 _ sX_209 (by decide))).trans f_ru) (by omega) x_101 ((m_107.1 209 7 _ sX_209 (by decide)).trans ff_102_7_209) (by omega) ke ((congrFun ((m_107.2 211 _ sX_211 (by decide)).1.trans (M_102.2 211 _ sX_211 (by decide)).1) _).trans f_ke) (by omega) (by omega) (fun k9 h9 => (congrFun ((m_107.2 211 _ sX_211 (by decide)).1.trans (M_102.2 211 _ sX_211 (by decide)).1) k9).trans (hkd k9 h9)) (fun k9 h9 => (congrFun ((m_107.2 213 _ sX_213 (by decide)).1.trans (M_102.2 213 _ sX_213 (by decide)).1) k9).trans (hvl k9 h9)) (by omega) I_107 H.size) (cwV 1 hts (bw_V wB_120 wB_121 wB_122 wB_24 wB_119) rfl rfl rfl (by decide +kernel) ⟨Nat.le_of_ble_eq_true rfl, Nat.le_of_ble_eq_true rfl⟩) (dg_preV sX_209 rfl K ST hP hS hA1 hA) rfl rfl hl.1 rfl (lv_room (Nat.le_of_ble_eq_true rfl)) dX6_readSum_36 ⟨Nat.le_of_ble_eq_true rfl, Nat.le_of_ble_eq_true rfl⟩) (fun x_109 S_110 hw_110 H locs hP hS => ?_)
            obtain ⟨I_110, m_110, w_110_0, w_110_1, -⟩ := hw_110
            have M_110 := dg_sm.tr M_107 m_110 (by decide) (by decide)
            have w_110_0 : 0 ≤ (x_109).toInt ∧ (x_109).toInt ≤ 1 := w_110_0
            obtain ⟨y_111, y_112, f_y_111, f_y_112, w_110_1⟩ := w_110_1
            have w_110_1 : ((y_111).toInt ≤ (en).toInt ∧ ((x_109).toInt = 1 → ((x_101).toInt + 1 ≤ (y_112).toInt ∧ (y_112).toInt - (x_101).toInt ≤ (y_111).toInt - (y_108).toInt))) ∧ g_ans x_109 (x_prod kd vl (x_part kd vl (ru).toInt (x_lv kd vl (ru).toInt 6).1 (x_lv kd vl (ru).toInt 6).2.1) (y_108 : Int32).toNatClampNeg) (y_111 : Int32).toNatClampNeg := w_110_1
            have b_y_111 : 0 ≤ (y_111).toInt ∧ (y_111).toInt ≤ 1600 := dg_I.intb (lo := 0) (hi := 1600) I_110 sX_209 (by decide +kernel) f_y_111
            have b_y_112 : 0 ≤ (y_112).toInt ∧ (y_112).toInt ≤ 1600 := dg_I.intb (lo := 0) (hi := 1600) I_110 sX_209 (by decide +kernel) f_y_112
            refine lv_istore_n (lv' := [(2, .int x_109), (4, .int x_97), (3, .int x_98), (0, .ref (o + 209)), (1, .int 1)]) hx hb dX6_readSum_39 rfl hl (by decide) rfl (fun ls hl => ?_)
            refine lv_aload_n hx hb dX6_readSum_40 rfl (lv_at hl 3 rfl) ?_
            refine lv_iload_n hx hb dX6_readSum_41 rfl (lv_at hl 2 rfl) ?_
            refine dg_callv hS hA1 hA (va_runV (As := [.int x_98]) (rest := []) F (c_rd_put l g D o S_110 x_98 en y_111 f_y_111 (by omega) y_112 f_y_112 (by omega) ke ((congrFun ((m_110.2 211 _ sX_211 (by decide)).1.trans ((m_107.2 211 _ sX_211 (by decide)).1.trans (M_102.2 211 _ sX_211 (by decide)).1)) _).trans f_ke) (by omega) (by omega) I_110 H.size) (cwV 1 hts (bw_V wB_96 wB_97 wB_98 wB_24 wB_95) rfl rfl rfl (by decide +kernel) ⟨Nat.le_of_ble_eq_true rfl, Nat.le_of_ble_eq_true rfl⟩) (dg_preV sX_209 rfl K ST hP hS hA1 hA) rfl rfl hl.1 rfl (lv_room (Nat.le_of_ble_eq_true rfl)) dX6_readSum_42 ⟨Nat.le_of_ble_eq_true rfl, Nat.le_of_ble_eq_true rfl⟩) (fun S_113 hw_113 H locs hP hS => ?_)
            obtain ⟨I_113, m_113, w_113_0, -⟩ := hw_113
            have M_113 := dg_sm.tr M_110 m_113 (by decide) (by decide)
            obtain ⟨y_114, f_y_114, w_113_0⟩ := w_113_0
            have w_113_0 : (y_112).toInt < 1600 → (y_114).toInt = (y_112).toInt + 1 := w_113_0
            have b_y_114 : 0 ≤ (y_114).toInt ∧ (y_114).toInt ≤ 1600 := dg_I.intb (lo := 0) (hi := 1600) I_113 sX_209 (by decide +kernel) f_y_114
            refine lv_aload_n hx hb dX6_readSum_45 rfl (lv_at hl 3 rfl) ?_
            refine dg_calli hS hA1 hA (va_runV (As := []) (rest := []) F (c_rd_sumStep l g D o S_113 en kd vl y_111 ((m_113.1 209 4 _ sX_209 (by decide)).trans f_y_111) (by omega) ke ((congrFun ((m_113.2 211 _ sX_211 (by decide)).1.trans ((m_110.2 211 _ sX_211 (by decide)).1.trans ((m_107.2 211 _ sX_211 (by decide)).1.trans (M_102.2 211 _ sX_211 (by decide)).1))) _).trans f_ke) (by omega) (by omega) (fun k9 h9 => (congrFun ((m_113.2 211 _ sX_211 (by decide)).1.trans ((m_110.2 211 _ sX_211 (by decide)).1.trans ((m_107.2 211 _ sX_211 (by decide)).1.trans (M_102.2 211 _ sX_211 (by decide)).1))) k9).trans (hkd k9 h9)) (fun k9 h9 => (congrFun ((m_113.2 213 _ sX_213 (by decide)).1.trans ((m_110.2 213 _ sX_213 (by decide)).1.trans ((m_107.2 213 _ sX_213 (by decide)).1.trans (M_102.2 213 _ sX_213 (by decide)).1))) k9).trans (hvl k9 h9)) I_113 H.size) (cwV 0 hts (bw_V wB_124 wB_125 wB_126 wB_24 wB_123) rfl rfl rfl (by decide +kernel) ⟨Nat.le_of_ble_eq_true rfl, Nat.le_of_ble_eq_true rfl⟩) (dg_preV sX_209 rfl K ST hP hS hA1 hA) rfl rfl hl.1 rfl (lv_room (Nat.le_of_ble_eq_true rfl)) dX6_readSum_46 ⟨Nat.le_of_ble_eq_true rfl, Nat.le_of_ble_eq_true rfl⟩) (fun x_115 S_116 hw_116 H locs hP hS => ?_)
            rw [hw_116.1] at hP
            obtain ⟨hq_116, w_116_0, w_116_1, -⟩ := hw_116
            have w_116_0 : (-11) ≤ (x_115).toInt ∧ (x_115).toInt ≤ 0 := w_116_0
            have w_116_1 : (x_115).toInt ≠ 0 ↔ g_so kd vl (y_111 : Int32).toNatClampNeg = true := w_116_1
            refine lv_istore_n (lv' := [(3, .int x_115), (2, .int x_109), (4, .int x_97), (0, .ref (o + 209)), (1, .int 1)]) hx hb dX6_readSum_49 rfl hl (by decide) rfl (fun ls hl => ?_)
            obtain ⟨x_117, ex_117⟩ : ∃ z, z = x_97 + 1 := ⟨_, rfl⟩
            have jx_117 : (x_117).toInt = (x_97).toInt + 1 := by rw [ex_117]; exact dk_addT rfl (by decide +kernel) (by omega) (by omega)
            refine lv_iinc (v := x_117) (lv' := [(4, .int x_117), (3, .int x_115), (2, .int x_109), (0, .ref (o + 209)), (1, .int 1)]) hx hb dX6_readSum_50 hl (k := 2) rfl (by rw [ex_117]; rfl) (by decide) rfl (fun ls hl => ?_)
            refine lv_goto (tgt := 14) hx hb dX6_readSum_53 (by decide) ?_
            exact ih x_117 x_115 x_109 y_111 y_114 (by omega) (by omega) (by omega) (by omega) (by omega) (by omega) (by omega) S_113 I_113 M_113 ((m_113.1 209 4 _ sX_209 (by decide)).trans f_y_111) f_y_114 (g_it.step srel_102_0 (by omega) (by omega) qsrel_102_1 (by have h9 := w_110_1.2; rw [nq_y_108] at h9; exact h9)) w_116_1 (by omega) _ _ hP hS _ (lv_sub hl [0, 1, 2, 3, 4] rfl)
  have hz_118 : (0 : Int32).toInt = 0 := by decide +kernel
  have hz_119 : (0 : Int32).toInt = 0 := by decide +kernel
  have hz_120 : (0 : Int32).toInt = 0 := by decide +kernel
  exact L_103 ((1601 - ((0 : Int32)).toInt).toNat + 1) 0 x_5 x_1 y_3 y_4 (by decide +kernel) (by omega) (by omega) (by omega) (by omega) (by omega) (by omega) S_2 I_2 M_2 f_y_3 f_y_4 (by rw [show (1600 - (0 : Int32).toInt).toNat = 1600 from by decide +kernel]; exact g_it.start w_2_1.2) w_6_1 (by omega) _ _ hP hS _ (lv_sub hl [0, 1, 2, 3, 4] rfl)
set_option maxHeartbeats 8000000 in
set_option maxRecDepth 100000 in
theorem c_rd_readComparing_1 (l : Launch) (g : Nat → ClassId) (D : va_G) (o : Nat) (S : dg_S) (en : Int32) (kd : Nat → Int32) (vl : Nat → Int32) (n0 : Int32) (f_n0 : S.1 209 4 = .int n0) (b_n0 : 0 ≤ (n0).toInt ∧ (n0).toInt ≤ 1600) (ru : Int32) (f_ru : S.1 209 6 = .int ru) (b_ru : 0 ≤ (ru).toInt ∧ (ru).toInt ≤ 2) (sc : Int32) (f_sc : S.1 209 7 = .int sc) (b_sc : 0 ≤ (sc).toInt ∧ (sc).toInt ≤ 1600) (ke : Int32) (f_ke : S.2.1 211 (en : Int32).toNatClampNeg = ke) (b_ke : 0 ≤ (ke).toInt ∧ (ke).toInt ≤ 0) (hne : (n0).toInt ≤ (en).toInt ∧ (en).toInt ≤ 1600 ∧ 0 ≤ (en).toInt) (hkd : ∀ k9 : Nat, k9 ≤ (en : Int32).toNatClampNeg → S.2.1 211 k9 = kd k9) (hvl : ∀ k9 : Nat, k9 ≤ (en : Int32).toNatClampNeg → S.2.1 213 k9 = vl k9) (hsc : (sc).toInt ≤ (n0).toInt) (I : CX o S) (sz : Nat) : Met l yX6_readComparing (bw yX6_readComparing cX6_readComparing 4 (some .boolean)) ({ frames := 56, cells := 0, slots := 0, locals := 1287 } : Room) (dk_Pc g D (dg_w g shX o rfX S) sz [.ref (o + 209), .int 1]) (va_Qi (fun (r : Int32) S' => CX o S' ∧ dg_sm shX [(31, 0), (31, 1), (31, 4), (31, 7)] [28] S S' ∧ (0 ≤ (r).toInt ∧ (r).toInt ≤ 1) ∧ (∃ y9_4 y9_7 : Int32, S'.1 209 4 = .int y9_4 ∧ S'.1 209 7 = .int y9_7 ∧ (((y9_4).toInt ≤ (en).toInt ∧ ((r).toInt = 1 → ((sc).toInt + 1 ≤ (y9_7).toInt ∧ (y9_7).toInt - (sc).toInt ≤ (y9_4).toInt - (n0).toInt))) ∧ g_ans r (x_comp kd vl (x_lv kd vl (ru).toInt 7).1 (n0 : Int32).toNatClampNeg) (y9_4 : Int32).toNatClampNeg)) ∧ True) (dg_B g D shX o rfX) (dg_A o shX.length sz)) 0 0 (dg_A o shX.length sz) := by
  refine dg_met (cc := cX6_readComparing) (maxL := 4) (ret := (some .boolean)) (by decide) rfl (Nat.le_of_ble_eq_true rfl) ?_
  intro p e s m args below meth c A hAe harg hx hb hr hml hts hown hlocks hin hP K hS hA1 hA ST hsz ls hl
  rw [← hAe]
  have F : CallFix p m c cX6_readComparing 4 s args (bw yX6_readComparing cX6_readComparing 4 (some .boolean)) RX6 := ⟨hx, hb, hml, hown, hts⟩
  have hl : lv_has ls 4 [(0, .ref (o + 209)), (1, .int 1)] := hl
  have M_0 : dg_sm shX [(31, 0), (31, 1), (31, 4), (31, 7)] [28] S S := dg_sm.rf
  refine lv_aload_n hx hb dX6_readComparing_0 rfl (lv_at hl 0 rfl) ?_
  refine lv_iload_n hx hb dX6_readComparing_1 rfl (lv_at hl 1 rfl) ?_
  refine dg_calli hS hA1 hA (va_runV (As := [.int 1]) (rest := []) F (c_rd_readSum_1 l g D o S en kd vl n0 f_n0 (by omega) ru f_ru (by omega) sc f_sc (by omega) ke f_ke (by omega) (by omega) hkd hvl (by omega) I s.heap.size) (cwV 1 hts (bw_V wB_128 wB_129 wB_130 wB_24 wB_127) rfl rfl rfl (by decide +kernel) ⟨Nat.le_of_ble_eq_true rfl, Nat.le_of_ble_eq_true rfl⟩) (dg_preV sX_209 rfl K ST hP hS hA1 hA) rfl rfl hl.1 rfl (lv_room (Nat.le_of_ble_eq_true rfl)) dX6_readComparing_2 ⟨Nat.le_of_ble_eq_true rfl, Nat.le_of_ble_eq_true rfl⟩) (fun x_1 S_2 hw_2 H locs hP hS => ?_)
  obtain ⟨I_2, m_2, w_2_0, w_2_1, -⟩ := hw_2
  have M_2 := dg_sm.tr M_0 m_2 (by decide) (by decide)
  have w_2_0 : 0 ≤ (x_1).toInt ∧ (x_1).toInt ≤ 1 := w_2_0
  obtain ⟨y_3, y_4, f_y_3, f_y_4, w_2_1⟩ := w_2_1
  have w_2_1 : ((y_3).toInt ≤ (en).toInt ∧ ((x_1).toInt = 1 → ((sc).toInt + 1 ≤ (y_4).toInt ∧ (y_4).toInt - (sc).toInt ≤ (y_3).toInt - (n0).toInt))) ∧ g_ans x_1 ((x_lv kd vl (ru).toInt 7).1 (n0 : Int32).toNatClampNeg) (y_3 : Int32).toNatClampNeg := w_2_1
  have b_y_3 : 0 ≤ (y_3).toInt ∧ (y_3).toInt ≤ 1600 := dg_I.intb (lo := 0) (hi := 1600) I_2 sX_209 (by decide +kernel) f_y_3
  have b_y_4 : 0 ≤ (y_4).toInt ∧ (y_4).toInt ≤ 1600 := dg_I.intb (lo := 0) (hi := 1600) I_2 sX_209 (by decide +kernel) f_y_4
  refine lv_if_ne (tgt := 10) hx hb dX6_readComparing_5 (by decide) (fun c_5 => ?_) (fun c_5 => ?_)
  · have jc_5 := dk_neqc (k := 0) (by decide +kernel) c_5
    have qw_2_1 : (x_lv kd vl (ru).toInt 7).1 (n0 : Int32).toNatClampNeg = some (y_3 : Int32).toNatClampNeg := by have h9 := w_2_1.2.1 (by omega); exact h9
    refine lv_aload_n hx hb dX6_readComparing_10 rfl (lv_at hl 0 rfl) ?_
    refine dg_calli hS hA1 hA (va_runV (As := []) (rest := []) F (c_rd_comparingStep l g D o S_2 en kd vl y_3 f_y_3 (by omega) ke ((congrFun (m_2.2 211 _ sX_211 (by decide)).1 _).trans f_ke) (by omega) (by omega) (fun k9 h9 => (congrFun (m_2.2 211 _ sX_211 (by decide)).1 k9).trans (hkd k9 h9)) (fun k9 h9 => (congrFun (m_2.2 213 _ sX_213 (by decide)).1 k9).trans (hvl k9 h9)) I_2 H.size) (cwV 0 hts (bw_V wB_132 wB_133 wB_134 wB_24 wB_131) rfl rfl rfl (by decide +kernel) ⟨Nat.le_of_ble_eq_true rfl, Nat.le_of_ble_eq_true rfl⟩) (dg_preV sX_209 rfl K ST hP hS hA1 hA) rfl rfl hl.1 rfl (lv_room (Nat.le_of_ble_eq_true rfl)) dX6_readComparing_11 ⟨Nat.le_of_ble_eq_true rfl, Nat.le_of_ble_eq_true rfl⟩) (fun x_6 S_7 hw_7 H locs hP hS => ?_)
    rw [hw_7.1] at hP
    obtain ⟨hq_7, w_7_0, w_7_1, -⟩ := hw_7
    have w_7_0 : (-19) ≤ (x_6).toInt ∧ (x_6).toInt ≤ 0 := w_7_0
    have w_7_1 : (x_6).toInt ≠ 0 ↔ g_co kd vl (y_3 : Int32).toNatClampNeg = true := w_7_1
    refine lv_istore_n (lv' := [(2, .int x_6), (0, .ref (o + 209)), (1, .int 1)]) hx hb dX6_readComparing_14 rfl hl (by decide) rfl (fun ls hl => ?_)
    refine lv_iload_n hx hb dX6_readComparing_15 rfl (lv_at hl 0 rfl) ?_
    refine lv_if_ne (tgt := 25) hx hb dX6_readComparing_16 (by decide) (fun c_8 => ?_) (fun c_8 => ?_)
    · have jc_8 := dk_neqc (k := 0) (by decide +kernel) c_8
      have qw_7_1 : g_co kd vl (y_3 : Int32).toNatClampNeg = true := by have h9 := w_7_1.mp (by omega); exact h9
      refine lv_aload_n hx hb dX6_readComparing_25 rfl (lv_at hl 1 rfl) ?_
      refine dg_callv hS hA1 hA (va_runV (As := []) (rest := []) F (c_rd_pass l g D o S_2 en kd vl y_3 f_y_3 (by omega) ke ((congrFun (m_2.2 211 _ sX_211 (by decide)).1 _).trans f_ke) (by omega) (by omega) (fun k9 h9 => (congrFun (m_2.2 211 _ sX_211 (by decide)).1 k9).trans (hkd k9 h9)) (fun k9 h9 => (congrFun (m_2.2 213 _ sX_213 (by decide)).1 k9).trans (hvl k9 h9)) I_2 H.size) (cwV 0 hts (bw_V wB_26 wB_27 wB_28 wB_24 wB_25) rfl rfl rfl (by decide +kernel) ⟨Nat.le_of_ble_eq_true rfl, Nat.le_of_ble_eq_true rfl⟩) (dg_preV sX_209 rfl K ST hP hS hA1 hA) rfl rfl hl.1 rfl (lv_room (Nat.le_of_ble_eq_true rfl)) dX6_readComparing_26 ⟨Nat.le_of_ble_eq_true rfl, Nat.le_of_ble_eq_true rfl⟩) (fun S_9 hw_9 H locs hP hS => ?_)
      obtain ⟨I_9, m_9, w_9_0, -⟩ := hw_9
      have M_9 := dg_sm.tr M_2 m_9 (by decide) (by decide)
      obtain ⟨y_10, f_y_10, w_9_0⟩ := w_9_0
      have w_9_0 : (y_10).toInt ≤ (en).toInt ∧ ((kd (y_3 : Int32).toNatClampNeg).toInt ≠ 0 → (y_10 : Int32).toNatClampNeg = (y_3 : Int32).toNatClampNeg + 1) := w_9_0
      have b_y_10 : 0 ≤ (y_10).toInt ∧ (y_10).toInt ≤ 1600 := dg_I.intb (lo := 0) (hi := 1600) I_9 sX_209 (by decide +kernel) f_y_10
      have nq_y_10 : (y_10 : Int32).toNatClampNeg = (y_3 : Int32).toNatClampNeg + 1 := by have h9 := w_9_0.2 (g_co_ne qw_7_1); omega
      have ni_y_10 : (y_10).toInt = (y_3).toInt + 1 := by have h8 := dk_clN y_10; have h9 := dk_clN y_3; omega
      refine lv_aload_n hx hb dX6_readComparing_29 rfl (lv_at hl 1 rfl) ?_
      refine lv_iload_n hx hb dX6_readComparing_30 rfl (lv_at hl 2 rfl) ?_
      refine dg_calli hS hA1 hA (va_runV (As := [.int 1]) (rest := []) F (c_rd_readSum_1 l g D o S_9 en kd vl y_10 f_y_10 (by omega) ru (((m_9.1 209 6 _ sX_209 (by decide)).trans (m_2.1 209 6 _ sX_209 (by decide))).trans f_ru) (by omega) y_4 ((m_9.1 209 7 _ sX_209 (by decide)).trans f_y_4) (by omega) ke ((congrFun ((m_9.2 211 _ sX_211 (by decide)).1.trans (m_2.2 211 _ sX_211 (by decide)).1) _).trans f_ke) (by omega) (by omega) (fun k9 h9 => (congrFun ((m_9.2 211 _ sX_211 (by decide)).1.trans (m_2.2 211 _ sX_211 (by decide)).1) k9).trans (hkd k9 h9)) (fun k9 h9 => (congrFun ((m_9.2 213 _ sX_213 (by decide)).1.trans (m_2.2 213 _ sX_213 (by decide)).1) k9).trans (hvl k9 h9)) (by omega) I_9 H.size) (cwV 1 hts (bw_V wB_128 wB_129 wB_130 wB_24 wB_127) rfl rfl rfl (by decide +kernel) ⟨Nat.le_of_ble_eq_true rfl, Nat.le_of_ble_eq_true rfl⟩) (dg_preV sX_209 rfl K ST hP hS hA1 hA) rfl rfl hl.1 rfl (lv_room (Nat.le_of_ble_eq_true rfl)) dX6_readComparing_31 ⟨Nat.le_of_ble_eq_true rfl, Nat.le_of_ble_eq_true rfl⟩) (fun x_11 S_12 hw_12 H locs hP hS => ?_)
      obtain ⟨I_12, m_12, w_12_0, w_12_1, -⟩ := hw_12
      have M_12 := dg_sm.tr M_9 m_12 (by decide) (by decide)
      have w_12_0 : 0 ≤ (x_11).toInt ∧ (x_11).toInt ≤ 1 := w_12_0
      obtain ⟨y_13, y_14, f_y_13, f_y_14, w_12_1⟩ := w_12_1
      have w_12_1 : ((y_13).toInt ≤ (en).toInt ∧ ((x_11).toInt = 1 → ((y_4).toInt + 1 ≤ (y_14).toInt ∧ (y_14).toInt - (y_4).toInt ≤ (y_13).toInt - (y_10).toInt))) ∧ g_ans x_11 ((x_lv kd vl (ru).toInt 7).1 (y_10 : Int32).toNatClampNeg) (y_13 : Int32).toNatClampNeg := w_12_1
      have b_y_13 : 0 ≤ (y_13).toInt ∧ (y_13).toInt ≤ 1600 := dg_I.intb (lo := 0) (hi := 1600) I_12 sX_209 (by decide +kernel) f_y_13
      have b_y_14 : 0 ≤ (y_14).toInt ∧ (y_14).toInt ≤ 1600 := dg_I.intb (lo := 0) (hi := 1600) I_12 sX_209 (by decide +kernel) f_y_14
      refine lv_istore_n (lv' := [(3, .int x_11), (2, .int x_6), (0, .ref (o + 209)), (1, .int 1)]) hx hb dX6_readComparing_34 rfl hl (by decide) rfl (fun ls hl => ?_)
      refine lv_aload_n hx hb dX6_readComparing_35 rfl (lv_at hl 2 rfl) ?_
      refine lv_iload_n hx hb dX6_readComparing_36 rfl (lv_at hl 1 rfl) ?_
      refine dg_callv hS hA1 hA (va_runV (As := [.int x_6]) (rest := []) F (c_rd_put l g D o S_12 x_6 en y_13 f_y_13 (by omega) y_14 f_y_14 (by omega) ke ((congrFun ((m_12.2 211 _ sX_211 (by decide)).1.trans ((m_9.2 211 _ sX_211 (by decide)).1.trans (m_2.2 211 _ sX_211 (by decide)).1)) _).trans f_ke) (by omega) (by omega) I_12 H.size) (cwV 1 hts (bw_V wB_96 wB_97 wB_98 wB_24 wB_95) rfl rfl rfl (by decide +kernel) ⟨Nat.le_of_ble_eq_true rfl, Nat.le_of_ble_eq_true rfl⟩) (dg_preV sX_209 rfl K ST hP hS hA1 hA) rfl rfl hl.1 rfl (lv_room (Nat.le_of_ble_eq_true rfl)) dX6_readComparing_37 ⟨Nat.le_of_ble_eq_true rfl, Nat.le_of_ble_eq_true rfl⟩) (fun S_15 hw_15 H locs hP hS => ?_)
      obtain ⟨I_15, m_15, w_15_0, -⟩ := hw_15
      have M_15 := dg_sm.tr M_12 m_15 (by decide) (by decide)
      obtain ⟨y_16, f_y_16, w_15_0⟩ := w_15_0
      have w_15_0 : (y_14).toInt < 1600 → (y_16).toInt = (y_14).toInt + 1 := w_15_0
      have b_y_16 : 0 ≤ (y_16).toInt ∧ (y_16).toInt ≤ 1600 := dg_I.intb (lo := 0) (hi := 1600) I_15 sX_209 (by decide +kernel) f_y_16
      refine lv_iload_n hx hb dX6_readComparing_40 rfl (lv_at hl 0 rfl) ?_
      refine W.widen (k := 0) (n := 0) (Nat.le_of_ble_eq_true rfl) (Nat.le_of_ble_eq_true rfl) ?_
      exact dg_iret hx hb hr hlocks (dk_znar (by omega) (by omega)) hP hS ⟨I_15, M_15, (by omega), ⟨y_13, y_16, ((m_15.1 209 4 _ sX_209 (by decide)).trans f_y_13), f_y_16, ⟨⟨by omega, by omega⟩, (g_ans.to (E := (x_lv kd vl (ru).toInt 7).1 ((y_3 : Int32).toNatClampNeg + 1)) (by have h9 := w_12_1.2; rw [nq_y_10] at h9; exact h9) (by simp [x_comp, qw_2_1, qw_7_1, nq_y_10]))⟩⟩, trivial⟩ dX6_readComparing_41
    · have jc_8 := dk_eqc (k := 0) (by decide +kernel) c_8
      have qw_7_1 : g_co kd vl (y_3 : Int32).toNatClampNeg = false := by have h9 := g_iff_f w_7_1 (by omega); exact h9
      refine lv_aload_n hx hb dX6_readComparing_19 rfl (lv_at hl 1 rfl) ?_
      refine lv_iconst (v := 1) hx hb dX6_readComparing_20 (by decide +kernel) ?_
      refine dg_calli hS hA1 hA (va_runV (As := [.int 1]) (rest := []) F (c_rd_fail l g D o S_2 1 en y_3 f_y_3 (by omega) ke ((congrFun (m_2.2 211 _ sX_211 (by decide)).1 _).trans f_ke) (by omega) (by omega) I_2 H.size) (cwV 1 hts (bw_V wB_30 wB_31 wB_32 wB_24 wB_29) rfl rfl rfl (by decide +kernel) ⟨Nat.le_of_ble_eq_true rfl, Nat.le_of_ble_eq_true rfl⟩) (dg_preV sX_209 rfl K ST hP hS hA1 hA) rfl rfl hl.1 rfl (lv_room (Nat.le_of_ble_eq_true rfl)) dX6_readComparing_21 ⟨Nat.le_of_ble_eq_true rfl, Nat.le_of_ble_eq_true rfl⟩) (fun x_17 S_18 hw_18 H locs hP hS => ?_)
      obtain ⟨I_18, m_18, w_18_0, -⟩ := hw_18
      have M_18 := dg_sm.tr M_2 m_18 (by decide) (by decide)
      have w_18_0 : 0 ≤ (x_17).toInt ∧ (x_17).toInt ≤ 0 := w_18_0
      refine W.widen (k := 0) (n := 0) (Nat.le_of_ble_eq_true rfl) (Nat.le_of_ble_eq_true rfl) ?_
      exact dg_iret hx hb hr hlocks (dk_znar (by omega) (by omega)) hP hS ⟨I_18, M_18, (by omega), ⟨y_3, y_4, ((m_18.1 209 4 _ sX_209 (by decide)).trans f_y_3), ((m_18.1 209 7 _ sX_209 (by decide)).trans f_y_4), ⟨⟨by omega, by omega⟩, g_ans.n (by omega) (by simp [x_comp, qw_2_1, qw_7_1])⟩⟩, trivial⟩ dX6_readComparing_24
  · have jc_5 := dk_eqc (k := 0) (by decide +kernel) c_5
    have qw_2_1 : (x_lv kd vl (ru).toInt 7).1 (n0 : Int32).toNatClampNeg = none := by have h9 := w_2_1.2.2 (by omega); exact h9
    refine lv_iconst (v := 0) hx hb dX6_readComparing_8 (by decide +kernel) ?_
    have hz_19 : (0 : Int32).toInt = 0 := by decide +kernel
    have hz_20 : (0 : Int32).toInt = 0 := by decide +kernel
    refine W.widen (k := 0) (n := 0) (Nat.le_of_ble_eq_true rfl) (Nat.le_of_ble_eq_true rfl) ?_
    exact dg_iret hx hb hr hlocks (by decide +kernel) hP hS ⟨I_2, M_2, (by decide +kernel), ⟨y_3, y_4, f_y_3, f_y_4, ⟨⟨by omega, by omega⟩, g_ans.n (by omega) (by simp [x_comp, qw_2_1])⟩⟩, trivial⟩ dX6_readComparing_9
set_option maxHeartbeats 8000000 in
set_option maxRecDepth 100000 in
theorem c_rd_readFact_1 (l : Launch) (g : Nat → ClassId) (D : va_G) (o : Nat) (S : dg_S) (en : Int32) (kd : Nat → Int32) (vl : Nat → Int32) (n0 : Int32) (f_n0 : S.1 209 4 = .int n0) (b_n0 : 0 ≤ (n0).toInt ∧ (n0).toInt ≤ 1600) (ru : Int32) (f_ru : S.1 209 6 = .int ru) (b_ru : 0 ≤ (ru).toInt ∧ (ru).toInt ≤ 2) (sc : Int32) (f_sc : S.1 209 7 = .int sc) (b_sc : 0 ≤ (sc).toInt ∧ (sc).toInt ≤ 1600) (ke : Int32) (f_ke : S.2.1 211 (en : Int32).toNatClampNeg = ke) (b_ke : 0 ≤ (ke).toInt ∧ (ke).toInt ≤ 0) (hne : (n0).toInt ≤ (en).toInt ∧ (en).toInt ≤ 1600 ∧ 0 ≤ (en).toInt) (hkd : ∀ k9 : Nat, k9 ≤ (en : Int32).toNatClampNeg → S.2.1 211 k9 = kd k9) (hvl : ∀ k9 : Nat, k9 ≤ (en : Int32).toNatClampNeg → S.2.1 213 k9 = vl k9) (hsc : (sc).toInt ≤ (n0).toInt) (I : CX o S) (sz : Nat) : Met l yX6_readFact (bw yX6_readFact cX6_readFact 3 (some .boolean)) ({ frames := 57, cells := 0, slots := 0, locals := 1310 } : Room) (dk_Pc g D (dg_w g shX o rfX S) sz [.ref (o + 209), .int 1]) (va_Qi (fun (r : Int32) S' => CX o S' ∧ dg_sm shX [(31, 0), (31, 1), (31, 4), (31, 7)] [28] S S' ∧ (0 ≤ (r).toInt ∧ (r).toInt ≤ 1) ∧ (∃ y9_4 y9_7 : Int32, S'.1 209 4 = .int y9_4 ∧ S'.1 209 7 = .int y9_7 ∧ (((y9_4).toInt ≤ (en).toInt ∧ ((r).toInt = 1 → ((sc).toInt + 1 ≤ (y9_7).toInt ∧ (y9_7).toInt - (sc).toInt ≤ (y9_4).toInt - (n0).toInt))) ∧ g_ans r ((x_lv kd vl (ru).toInt 7).2.2 (n0 : Int32).toNatClampNeg) (y9_4 : Int32).toNatClampNeg)) ∧ True) (dg_B g D shX o rfX) (dg_A o shX.length sz)) 0 0 (dg_A o shX.length sz) := by
  refine dg_met (cc := cX6_readFact) (maxL := 3) (ret := (some .boolean)) (by decide) rfl (Nat.le_of_ble_eq_true rfl) ?_
  intro p e s m args below meth c A hAe harg hx hb hr hml hts hown hlocks hin hP K hS hA1 hA ST hsz ls hl
  rw [← hAe]
  have F : CallFix p m c cX6_readFact 3 s args (bw yX6_readFact cX6_readFact 3 (some .boolean)) RX6 := ⟨hx, hb, hml, hown, hts⟩
  have hl : lv_has ls 3 [(0, .ref (o + 209)), (1, .int 1)] := hl
  have M_0 : dg_sm shX [(31, 0), (31, 1), (31, 4), (31, 7)] [28] S S := dg_sm.rf
  refine lv_aload_n hx hb dX6_readFact_0 rfl (lv_at hl 0 rfl) ?_
  refine lv_bipush (v := 23) hx hb dX6_readFact_1 (by decide +kernel) ?_
  refine dg_calli hS hA1 hA (va_runV (As := [.int 23]) (rest := []) F (c_rd_isOwn l g D o S 23 en kd vl n0 f_n0 (by omega) ke f_ke (by omega) (by omega) hkd hvl I s.heap.size) (cwV 1 hts (bw_V wB_21 wB_22 wB_23 wB_24 wB_20) rfl rfl rfl (by decide +kernel) ⟨Nat.le_of_ble_eq_true rfl, Nat.le_of_ble_eq_true rfl⟩) (dg_preV sX_209 rfl K ST hP hS hA1 hA) rfl rfl hl.1 rfl (lv_room (Nat.le_of_ble_eq_true rfl)) dX6_readFact_3 ⟨Nat.le_of_ble_eq_true rfl, Nat.le_of_ble_eq_true rfl⟩) (fun x_1 S_2 hw_2 H locs hP hS => ?_)
  rw [hw_2.1] at hP
  obtain ⟨hq_2, w_2_0, w_2_1, -⟩ := hw_2
  have hz_3 : (23 : Int32).toInt = 23 := by decide +kernel
  have w_2_0 : 0 ≤ (x_1).toInt ∧ (x_1).toInt ≤ 1 := w_2_0
  have w_2_1 : (x_1).toInt = 1 ↔ g_o kd vl ((23 : Int32)).toInt (n0 : Int32).toNatClampNeg = true := w_2_1
  refine lv_if_eq (tgt := 41) hx hb dX6_readFact_6 (by decide) (fun c_4 => ?_) (fun c_4 => ?_)
  · have jc_4 := dk_eqc (k := 0) (by decide +kernel) c_4
    have qw_2_1 : g_o kd vl 23 (n0 : Int32).toNatClampNeg = false := by have h9 := g_iff_f w_2_1 (by omega); rw [show (23 : Int32).toInt = 23 from by decide +kernel] at h9; exact h9
    refine lv_aload_n hx hb dX6_readFact_41 rfl (lv_at hl 0 rfl) ?_
    refine lv_bipush (v := 91) hx hb dX6_readFact_42 (by decide +kernel) ?_
    refine dg_calli hS hA1 hA (va_runV (As := [.int 91]) (rest := []) F (c_rd_isSign l g D o S 91 en kd vl n0 f_n0 (by omega) ke f_ke (by omega) (by omega) hkd hvl I H.size) (cwV 1 hts (bw_V wB_34 wB_35 wB_36 wB_24 wB_33) rfl rfl rfl (by decide +kernel) ⟨Nat.le_of_ble_eq_true rfl, Nat.le_of_ble_eq_true rfl⟩) (dg_preV sX_209 rfl K ST hP hS hA1 hA) rfl rfl hl.1 rfl (lv_room (Nat.le_of_ble_eq_true rfl)) dX6_readFact_44 ⟨Nat.le_of_ble_eq_true rfl, Nat.le_of_ble_eq_true rfl⟩) (fun x_5 S_6 hw_6 H locs hP hS => ?_)
    rw [hw_6.1] at hP
    obtain ⟨hq_6, w_6_0, w_6_1, -⟩ := hw_6
    have hz_7 : (91 : Int32).toInt = 91 := by decide +kernel
    have w_6_0 : 0 ≤ (x_5).toInt ∧ (x_5).toInt ≤ 1 := w_6_0
    have w_6_1 : (x_5).toInt = 1 ↔ g_s kd vl ((91 : Int32)).toInt (n0 : Int32).toNatClampNeg = true := w_6_1
    refine lv_if_eq (tgt := 83) hx hb dX6_readFact_47 (by decide) (fun c_8 => ?_) (fun c_8 => ?_)
    · have jc_8 := dk_eqc (k := 0) (by decide +kernel) c_8
      have qw_6_1 : g_s kd vl 91 (n0 : Int32).toNatClampNeg = false := by have h9 := g_iff_f w_6_1 (by omega); rw [show (91 : Int32).toInt = 91 from by decide +kernel] at h9; exact h9
      refine lv_aload_n hx hb dX6_readFact_83 rfl (lv_at hl 0 rfl) ?_
      refine lv_bipush (v := 24) hx hb dX6_readFact_84 (by decide +kernel) ?_
      refine dg_calli hS hA1 hA (va_runV (As := [.int 24]) (rest := []) F (c_rd_isOwn l g D o S 24 en kd vl n0 f_n0 (by omega) ke f_ke (by omega) (by omega) hkd hvl I H.size) (cwV 1 hts (bw_V wB_21 wB_22 wB_23 wB_24 wB_20) rfl rfl rfl (by decide +kernel) ⟨Nat.le_of_ble_eq_true rfl, Nat.le_of_ble_eq_true rfl⟩) (dg_preV sX_209 rfl K ST hP hS hA1 hA) rfl rfl hl.1 rfl (lv_room (Nat.le_of_ble_eq_true rfl)) dX6_readFact_86 ⟨Nat.le_of_ble_eq_true rfl, Nat.le_of_ble_eq_true rfl⟩) (fun x_9 S_10 hw_10 H locs hP hS => ?_)
      rw [hw_10.1] at hP
      obtain ⟨hq_10, w_10_0, w_10_1, -⟩ := hw_10
      have hz_11 : (24 : Int32).toInt = 24 := by decide +kernel
      have w_10_0 : 0 ≤ (x_9).toInt ∧ (x_9).toInt ≤ 1 := w_10_0
      have w_10_1 : (x_9).toInt = 1 ↔ g_o kd vl ((24 : Int32)).toInt (n0 : Int32).toNatClampNeg = true := w_10_1
      refine lv_if_eq (tgt := 104) hx hb dX6_readFact_89 (by decide) (fun c_12 => ?_) (fun c_12 => ?_)
      · have jc_12 := dk_eqc (k := 0) (by decide +kernel) c_12
        have qw_10_1 : g_o kd vl 24 (n0 : Int32).toNatClampNeg = false := by have h9 := g_iff_f w_10_1 (by omega); rw [show (24 : Int32).toInt = 24 from by decide +kernel] at h9; exact h9
        refine lv_aload_n hx hb dX6_readFact_104 rfl (lv_at hl 0 rfl) ?_
        refine lv_iload_n hx hb dX6_readFact_105 rfl (lv_at hl 1 rfl) ?_
        refine dg_calli hS hA1 hA (va_runV (As := [.int 1]) (rest := []) F (c_rd_readComparing_1 l g D o S en kd vl n0 f_n0 (by omega) ru f_ru (by omega) sc f_sc (by omega) ke f_ke (by omega) (by omega) hkd hvl (by omega) I H.size) (cwV 1 hts (bw_V wB_136 wB_137 wB_138 wB_24 wB_135) rfl rfl rfl (by decide +kernel) ⟨Nat.le_of_ble_eq_true rfl, Nat.le_of_ble_eq_true rfl⟩) (dg_preV sX_209 rfl K ST hP hS hA1 hA) rfl rfl hl.1 rfl (lv_room (Nat.le_of_ble_eq_true rfl)) dX6_readFact_106 ⟨Nat.le_of_ble_eq_true rfl, Nat.le_of_ble_eq_true rfl⟩) (fun x_13 S_14 hw_14 H locs hP hS => ?_)
        obtain ⟨I_14, m_14, w_14_0, w_14_1, -⟩ := hw_14
        have M_14 := dg_sm.tr M_0 m_14 (by decide) (by decide)
        have w_14_0 : 0 ≤ (x_13).toInt ∧ (x_13).toInt ≤ 1 := w_14_0
        obtain ⟨y_15, y_16, f_y_15, f_y_16, w_14_1⟩ := w_14_1
        have w_14_1 : ((y_15).toInt ≤ (en).toInt ∧ ((x_13).toInt = 1 → ((sc).toInt + 1 ≤ (y_16).toInt ∧ (y_16).toInt - (sc).toInt ≤ (y_15).toInt - (n0).toInt))) ∧ g_ans x_13 (x_comp kd vl (x_lv kd vl (ru).toInt 7).1 (n0 : Int32).toNatClampNeg) (y_15 : Int32).toNatClampNeg := w_14_1
        have b_y_15 : 0 ≤ (y_15).toInt ∧ (y_15).toInt ≤ 1600 := dg_I.intb (lo := 0) (hi := 1600) I_14 sX_209 (by decide +kernel) f_y_15
        have b_y_16 : 0 ≤ (y_16).toInt ∧ (y_16).toInt ≤ 1600 := dg_I.intb (lo := 0) (hi := 1600) I_14 sX_209 (by decide +kernel) f_y_16
        refine W.widen (k := 0) (n := 0) (Nat.le_of_ble_eq_true rfl) (Nat.le_of_ble_eq_true rfl) ?_
        exact dg_iret hx hb hr hlocks (dk_znar (by omega) (by omega)) hP hS ⟨I_14, M_14, (by omega), ⟨y_15, y_16, f_y_15, f_y_16, ⟨⟨by omega, by omega⟩, (g_ans.to (E := x_comp kd vl (x_lv kd vl (ru).toInt 7).1 (n0 : Int32).toNatClampNeg) (by have h9 := w_14_1.2; exact h9) (by show x_fact kd vl (x_lv kd vl (ru).toInt 6).2.2 (x_lv kd vl (ru).toInt 6).2.1 (x_lv kd vl (ru).toInt 7).1 (n0 : Int32).toNatClampNeg = _; simp [x_fact, g_tk, qw_2_1, qw_6_1, qw_10_1]))⟩⟩, trivial⟩ dX6_readFact_109
      · have jc_12 := dk_neqc (k := 0) (by decide +kernel) c_12
        have qw_10_1 : g_o kd vl 24 (n0 : Int32).toNatClampNeg = true := by have h9 := w_10_1.mp (by omega); rw [show (24 : Int32).toInt = 24 from by decide +kernel] at h9; exact h9
        refine lv_aload_n hx hb dX6_readFact_92 rfl (lv_at hl 0 rfl) ?_
        refine dg_callv hS hA1 hA (va_runV (As := []) (rest := []) F (c_rd_pass l g D o S en kd vl n0 f_n0 (by omega) ke f_ke (by omega) (by omega) hkd hvl I H.size) (cwV 0 hts (bw_V wB_26 wB_27 wB_28 wB_24 wB_25) rfl rfl rfl (by decide +kernel) ⟨Nat.le_of_ble_eq_true rfl, Nat.le_of_ble_eq_true rfl⟩) (dg_preV sX_209 rfl K ST hP hS hA1 hA) rfl rfl hl.1 rfl (lv_room (Nat.le_of_ble_eq_true rfl)) dX6_readFact_93 ⟨Nat.le_of_ble_eq_true rfl, Nat.le_of_ble_eq_true rfl⟩) (fun S_17 hw_17 H locs hP hS => ?_)
        obtain ⟨I_17, m_17, w_17_0, -⟩ := hw_17
        have M_17 := dg_sm.tr M_0 m_17 (by decide) (by decide)
        obtain ⟨y_18, f_y_18, w_17_0⟩ := w_17_0
        have w_17_0 : (y_18).toInt ≤ (en).toInt ∧ ((kd (n0 : Int32).toNatClampNeg).toInt ≠ 0 → (y_18 : Int32).toNatClampNeg = (n0 : Int32).toNatClampNeg + 1) := w_17_0
        have b_y_18 : 0 ≤ (y_18).toInt ∧ (y_18).toInt ≤ 1600 := dg_I.intb (lo := 0) (hi := 1600) I_17 sX_209 (by decide +kernel) f_y_18
        have nq_y_18 : (y_18 : Int32).toNatClampNeg = (n0 : Int32).toNatClampNeg + 1 := by have h9 := w_17_0.2 (g_o_ne qw_10_1); omega
        have ni_y_18 : (y_18).toInt = (n0).toInt + 1 := by have h8 := dk_clN y_18; have h9 := dk_clN n0; omega
        refine lv_aload_n hx hb dX6_readFact_96 rfl (lv_at hl 0 rfl) ?_
        refine lv_bipush (v := (-7)) hx hb dX6_readFact_97 (by decide +kernel) ?_
        refine dg_callv hS hA1 hA (va_runV (As := [.int (-7)]) (rest := []) F (c_rd_put l g D o S_17 (-7) en y_18 f_y_18 (by omega) sc ((m_17.1 209 7 _ sX_209 (by decide)).trans f_sc) (by omega) ke ((congrFun (m_17.2 211 _ sX_211 (by decide)).1 _).trans f_ke) (by omega) (by omega) I_17 H.size) (cwV 1 hts (bw_V wB_96 wB_97 wB_98 wB_24 wB_95) rfl rfl rfl (by decide +kernel) ⟨Nat.le_of_ble_eq_true rfl, Nat.le_of_ble_eq_true rfl⟩) (dg_preV sX_209 rfl K ST hP hS hA1 hA) rfl rfl hl.1 rfl (lv_room (Nat.le_of_ble_eq_true rfl)) dX6_readFact_99 ⟨Nat.le_of_ble_eq_true rfl, Nat.le_of_ble_eq_true rfl⟩) (fun S_19 hw_19 H locs hP hS => ?_)
        obtain ⟨I_19, m_19, w_19_0, -⟩ := hw_19
        have M_19 := dg_sm.tr M_17 m_19 (by decide) (by decide)
        have hz_20 : (-7 : Int32).toInt = (-7) := by decide +kernel
        obtain ⟨y_21, f_y_21, w_19_0⟩ := w_19_0
        have w_19_0 : (sc).toInt < 1600 → (y_21).toInt = (sc).toInt + 1 := w_19_0
        have b_y_21 : 0 ≤ (y_21).toInt ∧ (y_21).toInt ≤ 1600 := dg_I.intb (lo := 0) (hi := 1600) I_19 sX_209 (by decide +kernel) f_y_21
        refine lv_iconst (v := 1) hx hb dX6_readFact_102 (by decide +kernel) ?_
        have hz_22 : (1 : Int32).toInt = 1 := by decide +kernel
        have hz_23 : (1 : Int32).toInt = 1 := by decide +kernel
        refine W.widen (k := 0) (n := 0) (Nat.le_of_ble_eq_true rfl) (Nat.le_of_ble_eq_true rfl) ?_
        exact dg_iret hx hb hr hlocks (by decide +kernel) hP hS ⟨I_19, M_19, (by decide +kernel), ⟨y_18, y_21, ((m_19.1 209 4 _ sX_209 (by decide)).trans f_y_18), f_y_21, ⟨⟨by omega, by omega⟩, g_ans.y (by omega) (by show x_fact kd vl (x_lv kd vl (ru).toInt 6).2.2 (x_lv kd vl (ru).toInt 6).2.1 (x_lv kd vl (ru).toInt 7).1 (n0 : Int32).toNatClampNeg = _; simp [x_fact, g_tk, qw_2_1, qw_6_1, qw_10_1, nq_y_18])⟩⟩, trivial⟩ dX6_readFact_103
    · have jc_8 := dk_neqc (k := 0) (by decide +kernel) c_8
      have qw_6_1 : g_s kd vl 91 (n0 : Int32).toNatClampNeg = true := by have h9 := w_6_1.mp (by omega); rw [show (91 : Int32).toInt = 91 from by decide +kernel] at h9; exact h9
      refine lv_aload_n hx hb dX6_readFact_50 rfl (lv_at hl 0 rfl) ?_
      refine lv_iload_n hx hb dX6_readFact_51 rfl (lv_at hl 1 rfl) ?_
      refine dg_calli hS hA1 hA (va_runV (As := [.int 1]) (rest := []) F (c_rd_passOpening_1 l g D o S en kd vl n0 f_n0 (by omega) ke f_ke (by omega) (by omega) hkd hvl I H.size) (cwV 1 hts (bw_V wB_88 wB_89 wB_90 wB_24 wB_87) rfl rfl rfl (by decide +kernel) ⟨Nat.le_of_ble_eq_true rfl, Nat.le_of_ble_eq_true rfl⟩) (dg_preV sX_209 rfl K ST hP hS hA1 hA) rfl rfl hl.1 rfl (lv_room (Nat.le_of_ble_eq_true rfl)) dX6_readFact_52 ⟨Nat.le_of_ble_eq_true rfl, Nat.le_of_ble_eq_true rfl⟩) (fun x_24 S_25 hw_25 H locs hP hS => ?_)
      obtain ⟨I_25, m_25, w_25_0, w_25_1, -⟩ := hw_25
      have M_25 := dg_sm.tr M_0 m_25 (by decide) (by decide)
      have w_25_0 : 1 ≤ (x_24).toInt ∧ (x_24).toInt ≤ 1 := w_25_0
      obtain ⟨y_26, f_y_26, w_25_1⟩ := w_25_1
      have w_25_1 : (y_26).toInt ≤ (en).toInt ∧ ((kd (n0 : Int32).toNatClampNeg).toInt ≠ 0 → (y_26 : Int32).toNatClampNeg = (n0 : Int32).toNatClampNeg + 1) := w_25_1
      have b_y_26 : 0 ≤ (y_26).toInt ∧ (y_26).toInt ≤ 1600 := dg_I.intb (lo := 0) (hi := 1600) I_25 sX_209 (by decide +kernel) f_y_26
      have nq_y_26 : (y_26 : Int32).toNatClampNeg = (n0 : Int32).toNatClampNeg + 1 := by have h9 := w_25_1.2 (g_s_ne qw_6_1); omega
      have ni_y_26 : (y_26).toInt = (n0).toInt + 1 := by have h8 := dk_clN y_26; have h9 := dk_clN n0; omega
      refine lv_if_eq (tgt := 81) hx hb dX6_readFact_55 (by decide) (fun c => absurd c (fun z => absurd (dk_eqc (k := 0) (by decide +kernel) z) (by omega))) (fun _ => ?_)
      refine lv_aload_n hx hb dX6_readFact_58 rfl (lv_at hl 0 rfl) ?_
      refine lv_iload_n hx hb dX6_readFact_59 rfl (lv_at hl 1 rfl) ?_
      refine lv_iconst (v := 1) hx hb dX6_readFact_60 (by decide +kernel) ?_
      refine lv_iadd hx hb dX6_readFact_61 ?_
      refine dk_top (y := 2) (by decide +kernel) ?_
      refine dg_calli hS hA1 hA (va_runV (As := [.int 2]) (rest := []) F (c_rd_readTest_2 l g D o S_25 en kd vl y_26 f_y_26 (by omega) ru ((m_25.1 209 6 _ sX_209 (by decide)).trans f_ru) (by omega) sc ((m_25.1 209 7 _ sX_209 (by decide)).trans f_sc) (by omega) ke ((congrFun (m_25.2 211 _ sX_211 (by decide)).1 _).trans f_ke) (by omega) (by omega) (fun k9 h9 => (congrFun (m_25.2 211 _ sX_211 (by decide)).1 k9).trans (hkd k9 h9)) (fun k9 h9 => (congrFun (m_25.2 213 _ sX_213 (by decide)).1 k9).trans (hvl k9 h9)) (by omega) I_25 H.size) (cwV 1 hts (bw_V wB_148 wB_149 wB_150 wB_24 wB_147) rfl rfl rfl (by decide +kernel) ⟨Nat.le_of_ble_eq_true rfl, Nat.le_of_ble_eq_true rfl⟩) (dg_preV sX_209 rfl K ST hP hS hA1 hA) rfl rfl hl.1 rfl (lv_room (Nat.le_of_ble_eq_true rfl)) dX6_readFact_62 ⟨Nat.le_of_ble_eq_true rfl, Nat.le_of_ble_eq_true rfl⟩) (fun x_27 S_28 hw_28 H locs hP hS => ?_)
      obtain ⟨I_28, m_28, w_28_0, w_28_1, -⟩ := hw_28
      have M_28 := dg_sm.tr M_25 m_28 (by decide) (by decide)
      have w_28_0 : 0 ≤ (x_27).toInt ∧ (x_27).toInt ≤ 1 := w_28_0
      obtain ⟨y_29, y_30, f_y_29, f_y_30, w_28_1⟩ := w_28_1
      have w_28_1 : ((y_29).toInt ≤ (en).toInt ∧ ((x_27).toInt = 1 → ((sc).toInt + 1 ≤ (y_30).toInt ∧ (y_30).toInt - (sc).toInt ≤ (y_29).toInt - (y_26).toInt))) ∧ g_ans x_27 ((x_lv kd vl (ru).toInt 6).2.1 (y_26 : Int32).toNatClampNeg) (y_29 : Int32).toNatClampNeg := w_28_1
      have b_y_29 : 0 ≤ (y_29).toInt ∧ (y_29).toInt ≤ 1600 := dg_I.intb (lo := 0) (hi := 1600) I_28 sX_209 (by decide +kernel) f_y_29
      have b_y_30 : 0 ≤ (y_30).toInt ∧ (y_30).toInt ≤ 1600 := dg_I.intb (lo := 0) (hi := 1600) I_28 sX_209 (by decide +kernel) f_y_30
      refine lv_if_eq (tgt := 81) hx hb dX6_readFact_65 (by decide) (fun c_31 => ?_) (fun c_31 => ?_)
      · have jc_31 := dk_eqc (k := 0) (by decide +kernel) c_31
        have qw_28_1 : (x_lv kd vl (ru).toInt 6).2.1 ((n0 : Int32).toNatClampNeg + 1) = none := by have h9 := w_28_1.2.2 (by omega); rw [nq_y_26] at h9; exact h9
        refine lv_iconst (v := 0) hx hb dX6_readFact_81 (by decide +kernel) ?_
        have hz_32 : (0 : Int32).toInt = 0 := by decide +kernel
        have hz_33 : (0 : Int32).toInt = 0 := by decide +kernel
        refine W.widen (k := 0) (n := 0) (Nat.le_of_ble_eq_true rfl) (Nat.le_of_ble_eq_true rfl) ?_
        exact dg_iret hx hb hr hlocks (by decide +kernel) hP hS ⟨I_28, M_28, (by decide +kernel), ⟨y_29, y_30, f_y_29, f_y_30, ⟨⟨by omega, by omega⟩, g_ans.n (by omega) (by show x_fact kd vl (x_lv kd vl (ru).toInt 6).2.2 (x_lv kd vl (ru).toInt 6).2.1 (x_lv kd vl (ru).toInt 7).1 (n0 : Int32).toNatClampNeg = _; simp [x_fact, g_tk, qw_2_1, qw_6_1, nq_y_26, qw_28_1])⟩⟩, trivial⟩ dX6_readFact_82
      · have jc_31 := dk_neqc (k := 0) (by decide +kernel) c_31
        have qw_28_1 : (x_lv kd vl (ru).toInt 6).2.1 ((n0 : Int32).toNatClampNeg + 1) = some (y_29 : Int32).toNatClampNeg := by have h9 := w_28_1.2.1 (by omega); rw [nq_y_26] at h9; exact h9
        refine lv_aload_n hx hb dX6_readFact_68 rfl (lv_at hl 0 rfl) ?_
        refine lv_bipush (v := 93) hx hb dX6_readFact_69 (by decide +kernel) ?_
        refine dg_calli hS hA1 hA (va_runV (As := [.int 93]) (rest := []) F (c_rd_takeSign l g D o S_28 93 en kd vl y_29 f_y_29 (by omega) ke ((congrFun ((m_28.2 211 _ sX_211 (by decide)).1.trans (m_25.2 211 _ sX_211 (by decide)).1) _).trans f_ke) (by omega) (by omega) (fun k9 h9 => (congrFun ((m_28.2 211 _ sX_211 (by decide)).1.trans (m_25.2 211 _ sX_211 (by decide)).1) k9).trans (hkd k9 h9)) (fun k9 h9 => (congrFun ((m_28.2 213 _ sX_213 (by decide)).1.trans (m_25.2 213 _ sX_213 (by decide)).1) k9).trans (hvl k9 h9)) I_28 H.size) (cwV 1 hts (bw_V wB_152 wB_153 wB_154 wB_24 wB_151) rfl rfl rfl (by decide +kernel) ⟨Nat.le_of_ble_eq_true rfl, Nat.le_of_ble_eq_true rfl⟩) (dg_preV sX_209 rfl K ST hP hS hA1 hA) rfl rfl hl.1 rfl (lv_room (Nat.le_of_ble_eq_true rfl)) dX6_readFact_71 ⟨Nat.le_of_ble_eq_true rfl, Nat.le_of_ble_eq_true rfl⟩) (fun x_34 S_35 hw_35 H locs hP hS => ?_)
        obtain ⟨I_35, m_35, w_35_0, w_35_1, -⟩ := hw_35
        have M_35 := dg_sm.tr M_28 m_35 (by decide) (by decide)
        have hz_36 : (93 : Int32).toInt = 93 := by decide +kernel
        have w_35_0 : 0 ≤ (x_34).toInt ∧ (x_34).toInt ≤ 1 := w_35_0
        obtain ⟨y_37, f_y_37, w_35_1⟩ := w_35_1
        have w_35_1 : (y_37).toInt ≤ (en).toInt ∧ g_ans x_34 (g_tk kd vl ((93 : Int32)).toInt (y_29 : Int32).toNatClampNeg) (y_37 : Int32).toNatClampNeg := w_35_1
        have b_y_37 : 0 ≤ (y_37).toInt ∧ (y_37).toInt ≤ 1600 := dg_I.intb (lo := 0) (hi := 1600) I_35 sX_209 (by decide +kernel) f_y_37
        refine lv_if_eq (tgt := 81) hx hb dX6_readFact_74 (by decide) (fun c_38 => ?_) (fun c_38 => ?_)
        · have jc_38 := dk_eqc (k := 0) (by decide +kernel) c_38
          have qw_35_1 : g_tk kd vl 93 (y_29 : Int32).toNatClampNeg = none := by have h9 := w_35_1.2.2 (by omega); rw [show (93 : Int32).toInt = 93 from by decide +kernel] at h9; exact h9
          have qw_35_1s := g_tk_none qw_35_1
          refine lv_iconst (v := 0) hx hb dX6_readFact_81 (by decide +kernel) ?_
          have hz_39 : (0 : Int32).toInt = 0 := by decide +kernel
          have hz_40 : (0 : Int32).toInt = 0 := by decide +kernel
          refine W.widen (k := 0) (n := 0) (Nat.le_of_ble_eq_true rfl) (Nat.le_of_ble_eq_true rfl) ?_
          exact dg_iret hx hb hr hlocks (by decide +kernel) hP hS ⟨I_35, M_35, (by decide +kernel), ⟨y_37, y_30, f_y_37, ((m_35.1 209 7 _ sX_209 (by decide)).trans f_y_30), ⟨⟨by omega, by omega⟩, g_ans.n (by omega) (by show x_fact kd vl (x_lv kd vl (ru).toInt 6).2.2 (x_lv kd vl (ru).toInt 6).2.1 (x_lv kd vl (ru).toInt 7).1 (n0 : Int32).toNatClampNeg = _; simp [x_fact, g_tk, qw_2_1, qw_6_1, nq_y_26, qw_28_1, qw_35_1s])⟩⟩, trivial⟩ dX6_readFact_82
        · have jc_38 := dk_neqc (k := 0) (by decide +kernel) c_38
          have qw_35_1 : g_tk kd vl 93 (y_29 : Int32).toNatClampNeg = some (y_37 : Int32).toNatClampNeg := by have h9 := w_35_1.2.1 (by omega); rw [show (93 : Int32).toInt = 93 from by decide +kernel] at h9; exact h9
          have qw_35_1s := (g_tk_some qw_35_1).1
          have nq_y_37 : (y_37 : Int32).toNatClampNeg = (y_29 : Int32).toNatClampNeg + 1 := by have h9 := (g_tk_some qw_35_1).2; omega
          have ni_y_37 : (y_37).toInt = (y_29).toInt + 1 := by have h8 := dk_clN y_37; have h9 := dk_clN y_29; omega
          refine lv_iconst (v := 1) hx hb dX6_readFact_77 (by decide +kernel) ?_
          refine lv_goto (tgt := 82) hx hb dX6_readFact_78 (by decide) ?_
          have hz_41 : (1 : Int32).toInt = 1 := by decide +kernel
          have hz_42 : (1 : Int32).toInt = 1 := by decide +kernel
          refine W.widen (k := 0) (n := 0) (Nat.le_of_ble_eq_true rfl) (Nat.le_of_ble_eq_true rfl) ?_
          exact dg_iret hx hb hr hlocks (by decide +kernel) hP hS ⟨I_35, M_35, (by decide +kernel), ⟨y_37, y_30, f_y_37, ((m_35.1 209 7 _ sX_209 (by decide)).trans f_y_30), ⟨⟨by omega, by omega⟩, g_ans.y (by omega) (by show x_fact kd vl (x_lv kd vl (ru).toInt 6).2.2 (x_lv kd vl (ru).toInt 6).2.1 (x_lv kd vl (ru).toInt 7).1 (n0 : Int32).toNatClampNeg = _; simp [x_fact, g_tk, qw_2_1, qw_6_1, nq_y_26, qw_28_1, qw_35_1s, nq_y_37])⟩⟩, trivial⟩ dX6_readFact_82
  · have jc_4 := dk_neqc (k := 0) (by decide +kernel) c_4
    have qw_2_1 : g_o kd vl 23 (n0 : Int32).toNatClampNeg = true := by have h9 := w_2_1.mp (by omega); rw [show (23 : Int32).toInt = 23 from by decide +kernel] at h9; exact h9
    refine lv_aload_n hx hb dX6_readFact_9 rfl (lv_at hl 0 rfl) ?_
    refine lv_iload_n hx hb dX6_readFact_10 rfl (lv_at hl 1 rfl) ?_
    refine dg_calli hS hA1 hA (va_runV (As := [.int 1]) (rest := []) F (c_rd_passOpening_1 l g D o S en kd vl n0 f_n0 (by omega) ke f_ke (by omega) (by omega) hkd hvl I H.size) (cwV 1 hts (bw_V wB_88 wB_89 wB_90 wB_24 wB_87) rfl rfl rfl (by decide +kernel) ⟨Nat.le_of_ble_eq_true rfl, Nat.le_of_ble_eq_true rfl⟩) (dg_preV sX_209 rfl K ST hP hS hA1 hA) rfl rfl hl.1 rfl (lv_room (Nat.le_of_ble_eq_true rfl)) dX6_readFact_11 ⟨Nat.le_of_ble_eq_true rfl, Nat.le_of_ble_eq_true rfl⟩) (fun x_43 S_44 hw_44 H locs hP hS => ?_)
    obtain ⟨I_44, m_44, w_44_0, w_44_1, -⟩ := hw_44
    have M_44 := dg_sm.tr M_0 m_44 (by decide) (by decide)
    have w_44_0 : 1 ≤ (x_43).toInt ∧ (x_43).toInt ≤ 1 := w_44_0
    obtain ⟨y_45, f_y_45, w_44_1⟩ := w_44_1
    have w_44_1 : (y_45).toInt ≤ (en).toInt ∧ ((kd (n0 : Int32).toNatClampNeg).toInt ≠ 0 → (y_45 : Int32).toNatClampNeg = (n0 : Int32).toNatClampNeg + 1) := w_44_1
    have b_y_45 : 0 ≤ (y_45).toInt ∧ (y_45).toInt ≤ 1600 := dg_I.intb (lo := 0) (hi := 1600) I_44 sX_209 (by decide +kernel) f_y_45
    have nq_y_45 : (y_45 : Int32).toNatClampNeg = (n0 : Int32).toNatClampNeg + 1 := by have h9 := w_44_1.2 (g_o_ne qw_2_1); omega
    have ni_y_45 : (y_45).toInt = (n0).toInt + 1 := by have h8 := dk_clN y_45; have h9 := dk_clN n0; omega
    refine lv_if_eq (tgt := 31) hx hb dX6_readFact_14 (by decide) (fun c => absurd c (fun z => absurd (dk_eqc (k := 0) (by decide +kernel) z) (by omega))) (fun _ => ?_)
    refine lv_aload_n hx hb dX6_readFact_17 rfl (lv_at hl 0 rfl) ?_
    refine lv_iload_n hx hb dX6_readFact_18 rfl (lv_at hl 1 rfl) ?_
    refine lv_iconst (v := 1) hx hb dX6_readFact_19 (by decide +kernel) ?_
    refine lv_iadd hx hb dX6_readFact_20 ?_
    refine dk_top (y := 2) (by decide +kernel) ?_
    refine dg_calli hS hA1 hA (va_runV (As := [.int 2]) (rest := []) F (c_rd_readFact_2 l g D o S_44 en kd vl y_45 f_y_45 (by omega) ru ((m_44.1 209 6 _ sX_209 (by decide)).trans f_ru) (by omega) sc ((m_44.1 209 7 _ sX_209 (by decide)).trans f_sc) (by omega) ke ((congrFun (m_44.2 211 _ sX_211 (by decide)).1 _).trans f_ke) (by omega) (by omega) (fun k9 h9 => (congrFun (m_44.2 211 _ sX_211 (by decide)).1 k9).trans (hkd k9 h9)) (fun k9 h9 => (congrFun (m_44.2 213 _ sX_213 (by decide)).1 k9).trans (hvl k9 h9)) (by omega) I_44 H.size) (cwV 1 hts (bw_V wB_140 wB_141 wB_142 wB_24 wB_139) rfl rfl rfl (by decide +kernel) ⟨Nat.le_of_ble_eq_true rfl, Nat.le_of_ble_eq_true rfl⟩) (dg_preV sX_209 rfl K ST hP hS hA1 hA) rfl rfl hl.1 rfl (lv_room (Nat.le_of_ble_eq_true rfl)) dX6_readFact_21 ⟨Nat.le_of_ble_eq_true rfl, Nat.le_of_ble_eq_true rfl⟩) (fun x_46 S_47 hw_47 H locs hP hS => ?_)
    obtain ⟨I_47, m_47, w_47_0, w_47_1, -⟩ := hw_47
    have M_47 := dg_sm.tr M_44 m_47 (by decide) (by decide)
    have w_47_0 : 0 ≤ (x_46).toInt ∧ (x_46).toInt ≤ 1 := w_47_0
    obtain ⟨y_48, y_49, f_y_48, f_y_49, w_47_1⟩ := w_47_1
    have w_47_1 : ((y_48).toInt ≤ (en).toInt ∧ ((x_46).toInt = 1 → ((sc).toInt + 1 ≤ (y_49).toInt ∧ (y_49).toInt - (sc).toInt ≤ (y_48).toInt - (y_45).toInt))) ∧ g_ans x_46 ((x_lv kd vl (ru).toInt 6).2.2 (y_45 : Int32).toNatClampNeg) (y_48 : Int32).toNatClampNeg := w_47_1
    have b_y_48 : 0 ≤ (y_48).toInt ∧ (y_48).toInt ≤ 1600 := dg_I.intb (lo := 0) (hi := 1600) I_47 sX_209 (by decide +kernel) f_y_48
    have b_y_49 : 0 ≤ (y_49).toInt ∧ (y_49).toInt ≤ 1600 := dg_I.intb (lo := 0) (hi := 1600) I_47 sX_209 (by decide +kernel) f_y_49
    refine lv_if_eq (tgt := 31) hx hb dX6_readFact_24 (by decide) (fun c_50 => ?_) (fun c_50 => ?_)
    · have jc_50 := dk_eqc (k := 0) (by decide +kernel) c_50
      have qw_47_1 : (x_lv kd vl (ru).toInt 6).2.2 ((n0 : Int32).toNatClampNeg + 1) = none := by have h9 := w_47_1.2.2 (by omega); rw [nq_y_45] at h9; exact h9
      refine lv_iconst (v := 0) hx hb dX6_readFact_31 (by decide +kernel) ?_
      refine lv_istore_n (lv' := [(2, .int 0), (0, .ref (o + 209)), (1, .int 1)]) hx hb dX6_readFact_32 rfl hl (by decide) rfl (fun ls hl => ?_)
      refine lv_aload_n hx hb dX6_readFact_33 rfl (lv_at hl 1 rfl) ?_
      refine lv_bipush (v := (-8)) hx hb dX6_readFact_34 (by decide +kernel) ?_
      refine dg_callv hS hA1 hA (va_runV (As := [.int (-8)]) (rest := []) F (c_rd_put l g D o S_47 (-8) en y_48 f_y_48 (by omega) y_49 f_y_49 (by omega) ke ((congrFun ((m_47.2 211 _ sX_211 (by decide)).1.trans (m_44.2 211 _ sX_211 (by decide)).1) _).trans f_ke) (by omega) (by omega) I_47 H.size) (cwV 1 hts (bw_V wB_96 wB_97 wB_98 wB_24 wB_95) rfl rfl rfl (by decide +kernel) ⟨Nat.le_of_ble_eq_true rfl, Nat.le_of_ble_eq_true rfl⟩) (dg_preV sX_209 rfl K ST hP hS hA1 hA) rfl rfl hl.1 rfl (lv_room (Nat.le_of_ble_eq_true rfl)) dX6_readFact_36 ⟨Nat.le_of_ble_eq_true rfl, Nat.le_of_ble_eq_true rfl⟩) (fun S_51 hw_51 H locs hP hS => ?_)
      obtain ⟨I_51, m_51, w_51_0, -⟩ := hw_51
      have M_51 := dg_sm.tr M_47 m_51 (by decide) (by decide)
      have hz_52 : (-8 : Int32).toInt = (-8) := by decide +kernel
      obtain ⟨y_53, f_y_53, w_51_0⟩ := w_51_0
      have w_51_0 : (y_49).toInt < 1600 → (y_53).toInt = (y_49).toInt + 1 := w_51_0
      have b_y_53 : 0 ≤ (y_53).toInt ∧ (y_53).toInt ≤ 1600 := dg_I.intb (lo := 0) (hi := 1600) I_51 sX_209 (by decide +kernel) f_y_53
      refine lv_iload_n hx hb dX6_readFact_39 rfl (lv_at hl 0 rfl) ?_
      have hz_54 : (0 : Int32).toInt = 0 := by decide +kernel
      have hz_55 : (0 : Int32).toInt = 0 := by decide +kernel
      refine W.widen (k := 0) (n := 0) (Nat.le_of_ble_eq_true rfl) (Nat.le_of_ble_eq_true rfl) ?_
      exact dg_iret hx hb hr hlocks (by decide +kernel) hP hS ⟨I_51, M_51, (by decide +kernel), ⟨y_48, y_53, ((m_51.1 209 4 _ sX_209 (by decide)).trans f_y_48), f_y_53, ⟨⟨by omega, by omega⟩, g_ans.n (by omega) (by show x_fact kd vl (x_lv kd vl (ru).toInt 6).2.2 (x_lv kd vl (ru).toInt 6).2.1 (x_lv kd vl (ru).toInt 7).1 (n0 : Int32).toNatClampNeg = _; simp [x_fact, g_tk, qw_2_1, nq_y_45, qw_47_1])⟩⟩, trivial⟩ dX6_readFact_40
    · have jc_50 := dk_neqc (k := 0) (by decide +kernel) c_50
      have qw_47_1 : (x_lv kd vl (ru).toInt 6).2.2 ((n0 : Int32).toNatClampNeg + 1) = some (y_48 : Int32).toNatClampNeg := by have h9 := w_47_1.2.1 (by omega); rw [nq_y_45] at h9; exact h9
      refine lv_iconst (v := 1) hx hb dX6_readFact_27 (by decide +kernel) ?_
      refine lv_goto (tgt := 32) hx hb dX6_readFact_28 (by decide) ?_
      refine lv_istore_n (lv' := [(2, .int 1), (0, .ref (o + 209)), (1, .int 1)]) hx hb dX6_readFact_32 rfl hl (by decide) rfl (fun ls hl => ?_)
      refine lv_aload_n hx hb dX6_readFact_33 rfl (lv_at hl 1 rfl) ?_
      refine lv_bipush (v := (-8)) hx hb dX6_readFact_34 (by decide +kernel) ?_
      refine dg_callv hS hA1 hA (va_runV (As := [.int (-8)]) (rest := []) F (c_rd_put l g D o S_47 (-8) en y_48 f_y_48 (by omega) y_49 f_y_49 (by omega) ke ((congrFun ((m_47.2 211 _ sX_211 (by decide)).1.trans (m_44.2 211 _ sX_211 (by decide)).1) _).trans f_ke) (by omega) (by omega) I_47 H.size) (cwV 1 hts (bw_V wB_96 wB_97 wB_98 wB_24 wB_95) rfl rfl rfl (by decide +kernel) ⟨Nat.le_of_ble_eq_true rfl, Nat.le_of_ble_eq_true rfl⟩) (dg_preV sX_209 rfl K ST hP hS hA1 hA) rfl rfl hl.1 rfl (lv_room (Nat.le_of_ble_eq_true rfl)) dX6_readFact_36 ⟨Nat.le_of_ble_eq_true rfl, Nat.le_of_ble_eq_true rfl⟩) (fun S_56 hw_56 H locs hP hS => ?_)
      obtain ⟨I_56, m_56, w_56_0, -⟩ := hw_56
      have M_56 := dg_sm.tr M_47 m_56 (by decide) (by decide)
      have hz_57 : (-8 : Int32).toInt = (-8) := by decide +kernel
      obtain ⟨y_58, f_y_58, w_56_0⟩ := w_56_0
      have w_56_0 : (y_49).toInt < 1600 → (y_58).toInt = (y_49).toInt + 1 := w_56_0
      have b_y_58 : 0 ≤ (y_58).toInt ∧ (y_58).toInt ≤ 1600 := dg_I.intb (lo := 0) (hi := 1600) I_56 sX_209 (by decide +kernel) f_y_58
      refine lv_iload_n hx hb dX6_readFact_39 rfl (lv_at hl 0 rfl) ?_
      have hz_59 : (1 : Int32).toInt = 1 := by decide +kernel
      have hz_60 : (1 : Int32).toInt = 1 := by decide +kernel
      refine W.widen (k := 0) (n := 0) (Nat.le_of_ble_eq_true rfl) (Nat.le_of_ble_eq_true rfl) ?_
      exact dg_iret hx hb hr hlocks (by decide +kernel) hP hS ⟨I_56, M_56, (by decide +kernel), ⟨y_48, y_58, ((m_56.1 209 4 _ sX_209 (by decide)).trans f_y_48), f_y_58, ⟨⟨by omega, by omega⟩, g_ans.y (by omega) (by show x_fact kd vl (x_lv kd vl (ru).toInt 6).2.2 (x_lv kd vl (ru).toInt 6).2.1 (x_lv kd vl (ru).toInt 7).1 (n0 : Int32).toNatClampNeg = _; simp [x_fact, g_tk, qw_2_1, nq_y_45, qw_47_1])⟩⟩, trivial⟩ dX6_readFact_40
set_option maxHeartbeats 8000000 in
set_option maxRecDepth 100000 in
theorem c_rd_readBoth_1 (l : Launch) (g : Nat → ClassId) (D : va_G) (o : Nat) (S : dg_S) (en : Int32) (kd : Nat → Int32) (vl : Nat → Int32) (n0 : Int32) (f_n0 : S.1 209 4 = .int n0) (b_n0 : 0 ≤ (n0).toInt ∧ (n0).toInt ≤ 1600) (ru : Int32) (f_ru : S.1 209 6 = .int ru) (b_ru : 0 ≤ (ru).toInt ∧ (ru).toInt ≤ 2) (sc : Int32) (f_sc : S.1 209 7 = .int sc) (b_sc : 0 ≤ (sc).toInt ∧ (sc).toInt ≤ 1600) (ke : Int32) (f_ke : S.2.1 211 (en : Int32).toNatClampNeg = ke) (b_ke : 0 ≤ (ke).toInt ∧ (ke).toInt ≤ 0) (hne : (n0).toInt ≤ (en).toInt ∧ (en).toInt ≤ 1600 ∧ 0 ≤ (en).toInt) (hkd : ∀ k9 : Nat, k9 ≤ (en : Int32).toNatClampNeg → S.2.1 211 k9 = kd k9) (hvl : ∀ k9 : Nat, k9 ≤ (en : Int32).toNatClampNeg → S.2.1 213 k9 = vl k9) (hsc : (sc).toInt ≤ (n0).toInt) (I : CX o S) (sz : Nat) : Met l yX6_readBoth (bw yX6_readBoth cX6_readBoth 4 (some .boolean)) ({ frames := 58, cells := 0, slots := 0, locals := 1332 } : Room) (dk_Pc g D (dg_w g shX o rfX S) sz [.ref (o + 209), .int 1]) (va_Qi (fun (r : Int32) S' => CX o S' ∧ dg_sm shX [(31, 0), (31, 1), (31, 4), (31, 7)] [28] S S' ∧ (0 ≤ (r).toInt ∧ (r).toInt ≤ 1) ∧ (∃ y9_4 y9_7 : Int32, S'.1 209 4 = .int y9_4 ∧ S'.1 209 7 = .int y9_7 ∧ (((y9_4).toInt ≤ (en).toInt ∧ ((r).toInt = 1 → ((sc).toInt + 1 ≤ (y9_7).toInt ∧ (y9_7).toInt - (sc).toInt ≤ (y9_4).toInt - (n0).toInt))) ∧ g_ans r (x_both kd vl (x_lv kd vl (ru).toInt 7).2.2 (n0 : Int32).toNatClampNeg) (y9_4 : Int32).toNatClampNeg)) ∧ True) (dg_B g D shX o rfX) (dg_A o shX.length sz)) 0 0 (dg_A o shX.length sz) := by
  refine dg_met (cc := cX6_readBoth) (maxL := 4) (ret := (some .boolean)) (by decide) rfl (Nat.le_of_ble_eq_true rfl) ?_
  intro p e s m args below meth c A hAe harg hx hb hr hml hts hown hlocks hin hP K hS hA1 hA ST hsz ls hl
  rw [← hAe]
  have F : CallFix p m c cX6_readBoth 4 s args (bw yX6_readBoth cX6_readBoth 4 (some .boolean)) RX6 := ⟨hx, hb, hml, hown, hts⟩
  have hl : lv_has ls 4 [(0, .ref (o + 209)), (1, .int 1)] := hl
  have M_0 : dg_sm shX [(31, 0), (31, 1), (31, 4), (31, 7)] [28] S S := dg_sm.rf
  refine lv_aload_n hx hb dX6_readBoth_0 rfl (lv_at hl 0 rfl) ?_
  refine lv_iload_n hx hb dX6_readBoth_1 rfl (lv_at hl 1 rfl) ?_
  refine dg_calli hS hA1 hA (va_runV (As := [.int 1]) (rest := []) F (c_rd_readFact_1 l g D o S en kd vl n0 f_n0 (by omega) ru f_ru (by omega) sc f_sc (by omega) ke f_ke (by omega) (by omega) hkd hvl (by omega) I s.heap.size) (cwV 1 hts (bw_V wB_140 wB_141 wB_142 wB_24 wB_139) rfl rfl rfl (by decide +kernel) ⟨Nat.le_of_ble_eq_true rfl, Nat.le_of_ble_eq_true rfl⟩) (dg_preV sX_209 rfl K ST hP hS hA1 hA) rfl rfl hl.1 rfl (lv_room (Nat.le_of_ble_eq_true rfl)) dX6_readBoth_2 ⟨Nat.le_of_ble_eq_true rfl, Nat.le_of_ble_eq_true rfl⟩) (fun x_1 S_2 hw_2 H locs hP hS => ?_)
  obtain ⟨I_2, m_2, w_2_0, w_2_1, -⟩ := hw_2
  have M_2 := dg_sm.tr M_0 m_2 (by decide) (by decide)
  have w_2_0 : 0 ≤ (x_1).toInt ∧ (x_1).toInt ≤ 1 := w_2_0
  obtain ⟨y_3, y_4, f_y_3, f_y_4, w_2_1⟩ := w_2_1
  have w_2_1 : ((y_3).toInt ≤ (en).toInt ∧ ((x_1).toInt = 1 → ((sc).toInt + 1 ≤ (y_4).toInt ∧ (y_4).toInt - (sc).toInt ≤ (y_3).toInt - (n0).toInt))) ∧ g_ans x_1 ((x_lv kd vl (ru).toInt 7).2.2 (n0 : Int32).toNatClampNeg) (y_3 : Int32).toNatClampNeg := w_2_1
  have b_y_3 : 0 ≤ (y_3).toInt ∧ (y_3).toInt ≤ 1600 := dg_I.intb (lo := 0) (hi := 1600) I_2 sX_209 (by decide +kernel) f_y_3
  have b_y_4 : 0 ≤ (y_4).toInt ∧ (y_4).toInt ≤ 1600 := dg_I.intb (lo := 0) (hi := 1600) I_2 sX_209 (by decide +kernel) f_y_4
  refine lv_istore_n (lv' := [(2, .int x_1), (0, .ref (o + 209)), (1, .int 1)]) hx hb dX6_readBoth_5 rfl hl (by decide) rfl (fun ls hl => ?_)
  refine lv_iconst (v := 0) hx hb dX6_readBoth_6 (by decide +kernel) ?_
  refine lv_istore_n (lv' := [(3, .int 0), (2, .int x_1), (0, .ref (o + 209)), (1, .int 1)]) hx hb dX6_readBoth_7 rfl hl (by decide) rfl (fun ls hl => ?_)
  have L_106 : ∀ (n : Nat) (x_101 : Int32) (x_102 : Int32) (x_103 : Int32) (x_104 : Int32), (0 ≤ (x_101).toInt ∧ (x_101).toInt ≤ 1600) → (0 ≤ (x_102).toInt ∧ (x_102).toInt ≤ 1) → (0 ≤ (x_103).toInt ∧ (x_103).toInt ≤ 1600) → (0 ≤ (x_104).toInt ∧ (x_104).toInt ≤ 1600) → ((x_103).toInt ≤ (en).toInt) → ((1601 - (x_101).toInt).toNat < n) → ∀ S_105 : dg_S, CX o S_105 → dg_sm shX [(31, 0), (31, 1), (31, 4), (31, 7)] [28] S S_105 → S_105.1 209 4 = .int x_103 → S_105.1 209 7 = .int x_104 → (g_it x_102 (x_both kd vl (x_lv kd vl (ru).toInt 7).2.2 (n0 : Int32).toNatClampNeg) (g_o kd vl 22) ((x_lv kd vl (ru).toInt 7).2.2) (1600 - (x_101 : Int32).toInt).toNat (x_103 : Int32).toNatClampNeg) → (((x_102).toInt = 1 → ((sc).toInt + 1 ≤ (x_104).toInt ∧ (x_104).toInt - (sc).toInt ≤ (x_103).toInt - (n0).toInt))) → ∀ (H : Heap) (locs : List Loc), va_P D vwCl (dg_w g shX o rfX S_105) H → va_S A s.heap H locs → ∀ ls : Array Slot, lv_has ls 4 [(3, .int x_101), (2, .int x_102), (0, .ref (o + 209)), (1, .int 1)] → W p l e ({ frames := 58, cells := 0, slots := 0, locals := 1332 } : Room) s m args below meth c H locs 0 0 (MQ below (va_Qi (fun (r : Int32) S' => CX o S' ∧ dg_sm shX [(31, 0), (31, 1), (31, 4), (31, 7)] [28] S S' ∧ (0 ≤ (r).toInt ∧ (r).toInt ≤ 1) ∧ (∃ y9_4 y9_7 : Int32, S'.1 209 4 = .int y9_4 ∧ S'.1 209 7 = .int y9_7 ∧ (((y9_4).toInt ≤ (en).toInt ∧ ((r).toInt = 1 → ((sc).toInt + 1 ≤ (y9_7).toInt ∧ (y9_7).toInt - (sc).toInt ≤ (y9_4).toInt - (n0).toInt))) ∧ g_ans r (x_both kd vl (x_lv kd vl (ru).toInt 7).2.2 (n0 : Int32).toNatClampNeg) (y9_4 : Int32).toNatClampNeg)) ∧ True) (dg_B g D shX o rfX) A) args s 0 0 A) (F0 m 8 ls []) := by
    intro n
    induction n with
    | zero =>
      intro x_101 x_102 x_103 x_104 b_x_101 b_x_102 b_x_103 b_x_104 rel_0 hmu S_105 I_105 M_105 ff_105_4_209 ff_105_7_209 srel_105_0 srel_105_1 H locs hP hS ls hl
      omega
    | succ n ih =>
      intro x_101 x_102 x_103 x_104 b_x_101 b_x_102 b_x_103 b_x_104 rel_0 hmu S_105 I_105 M_105 ff_105_4_209 ff_105_7_209 srel_105_0 srel_105_1 H locs hP hS ls hl
      refine lv_iload_n hx hb dX6_readBoth_8 rfl (lv_at hl 0 rfl) ?_
      refine lv_sipush (v := 1600) hx hb dX6_readBoth_9 (by decide +kernel) ?_
      refine lv_icmp_ge (tgt := 50) hx hb dX6_readBoth_12 (by decide) (fun c_107 => ?_) (fun c_107 => ?_)
      · have jc_107 := dk_gec (k := 1600) (by decide +kernel) c_107
        refine lv_iload_n hx hb dX6_readBoth_50 rfl (lv_at hl 1 rfl) ?_
        refine W.widen (k := 0) (n := 0) (Nat.le_of_ble_eq_true rfl) (Nat.le_of_ble_eq_true rfl) ?_
        exact dg_iret hx hb hr hlocks (dk_znar (by omega) (by omega)) hP hS ⟨I_105, M_105, (by omega), ⟨x_103, x_104, ff_105_4_209, ff_105_7_209, ⟨⟨by omega, by omega⟩, g_it.stop srel_105_0 (fun _ => Or.inl (by omega))⟩⟩, trivial⟩ dX6_readBoth_51
      · have jc_107 := dk_ngec (k := 1600) (by decide +kernel) c_107
        refine lv_iload_n hx hb dX6_readBoth_15 rfl (lv_at hl 1 rfl) ?_
        refine lv_if_eq (tgt := 50) hx hb dX6_readBoth_16 (by decide) (fun c_108 => ?_) (fun c_108 => ?_)
        · have jc_108 := dk_eqc (k := 0) (by decide +kernel) c_108
          refine lv_iload_n hx hb dX6_readBoth_50 rfl (lv_at hl 1 rfl) ?_
          refine W.widen (k := 0) (n := 0) (Nat.le_of_ble_eq_true rfl) (Nat.le_of_ble_eq_true rfl) ?_
          exact dg_iret hx hb hr hlocks (dk_znar (by omega) (by omega)) hP hS ⟨I_105, M_105, (by omega), ⟨x_103, x_104, ff_105_4_209, ff_105_7_209, ⟨⟨by omega, by omega⟩, g_it.stop srel_105_0 (fun h9 => absurd h9 (by omega))⟩⟩, trivial⟩ dX6_readBoth_51
        · have jc_108 := dk_neqc (k := 0) (by decide +kernel) c_108
          refine lv_aload_n hx hb dX6_readBoth_19 rfl (lv_at hl 2 rfl) ?_
          refine lv_bipush (v := 22) hx hb dX6_readBoth_20 (by decide +kernel) ?_
          refine dg_calli hS hA1 hA (va_runV (As := [.int 22]) (rest := []) F (c_rd_isOwn l g D o S_105 22 en kd vl x_103 ff_105_4_209 (by omega) ke ((congrFun (M_105.2 211 _ sX_211 (by decide)).1 _).trans f_ke) (by omega) (by omega) (fun k9 h9 => (congrFun (M_105.2 211 _ sX_211 (by decide)).1 k9).trans (hkd k9 h9)) (fun k9 h9 => (congrFun (M_105.2 213 _ sX_213 (by decide)).1 k9).trans (hvl k9 h9)) I_105 H.size) (cwV 1 hts (bw_V wB_21 wB_22 wB_23 wB_24 wB_20) rfl rfl rfl (by decide +kernel) ⟨Nat.le_of_ble_eq_true rfl, Nat.le_of_ble_eq_true rfl⟩) (dg_preV sX_209 rfl K ST hP hS hA1 hA) rfl rfl hl.1 rfl (lv_room (Nat.le_of_ble_eq_true rfl)) dX6_readBoth_22 ⟨Nat.le_of_ble_eq_true rfl, Nat.le_of_ble_eq_true rfl⟩) (fun x_109 S_110 hw_110 H locs hP hS => ?_)
          rw [hw_110.1] at hP
          obtain ⟨hq_110, w_110_0, w_110_1, -⟩ := hw_110
          have hz_111 : (22 : Int32).toInt = 22 := by decide +kernel
          have w_110_0 : 0 ≤ (x_109).toInt ∧ (x_109).toInt ≤ 1 := w_110_0
          have w_110_1 : (x_109).toInt = 1 ↔ g_o kd vl ((22 : Int32)).toInt (x_103 : Int32).toNatClampNeg = true := w_110_1
          refine lv_if_eq (tgt := 50) hx hb dX6_readBoth_25 (by decide) (fun c_112 => ?_) (fun c_112 => ?_)
          · have jc_112 := dk_eqc (k := 0) (by decide +kernel) c_112
            have qw_110_1 : g_o kd vl 22 (x_103 : Int32).toNatClampNeg = false := by have h9 := g_iff_f w_110_1 (by omega); rw [show (22 : Int32).toInt = 22 from by decide +kernel] at h9; exact h9
            refine lv_iload_n hx hb dX6_readBoth_50 rfl (lv_at hl 1 rfl) ?_
            refine W.widen (k := 0) (n := 0) (Nat.le_of_ble_eq_true rfl) (Nat.le_of_ble_eq_true rfl) ?_
            exact dg_iret hx hb hr hlocks (dk_znar (by omega) (by omega)) hP hS ⟨I_105, M_105, (by omega), ⟨x_103, x_104, ff_105_4_209, ff_105_7_209, ⟨⟨by omega, by omega⟩, g_it.stop srel_105_0 (fun _ => Or.inr qw_110_1)⟩⟩, trivial⟩ dX6_readBoth_51
          · have jc_112 := dk_neqc (k := 0) (by decide +kernel) c_112
            have qw_110_1 : g_o kd vl 22 (x_103 : Int32).toNatClampNeg = true := by have h9 := w_110_1.mp (by omega); rw [show (22 : Int32).toInt = 22 from by decide +kernel] at h9; exact h9
            refine lv_aload_n hx hb dX6_readBoth_28 rfl (lv_at hl 2 rfl) ?_
            refine dg_callv hS hA1 hA (va_runV (As := []) (rest := []) F (c_rd_pass l g D o S_105 en kd vl x_103 ff_105_4_209 (by omega) ke ((congrFun (M_105.2 211 _ sX_211 (by decide)).1 _).trans f_ke) (by omega) (by omega) (fun k9 h9 => (congrFun (M_105.2 211 _ sX_211 (by decide)).1 k9).trans (hkd k9 h9)) (fun k9 h9 => (congrFun (M_105.2 213 _ sX_213 (by decide)).1 k9).trans (hvl k9 h9)) I_105 H.size) (cwV 0 hts (bw_V wB_26 wB_27 wB_28 wB_24 wB_25) rfl rfl rfl (by decide +kernel) ⟨Nat.le_of_ble_eq_true rfl, Nat.le_of_ble_eq_true rfl⟩) (dg_preV sX_209 rfl K ST hP hS hA1 hA) rfl rfl hl.1 rfl (lv_room (Nat.le_of_ble_eq_true rfl)) dX6_readBoth_29 ⟨Nat.le_of_ble_eq_true rfl, Nat.le_of_ble_eq_true rfl⟩) (fun S_113 hw_113 H locs hP hS => ?_)
            obtain ⟨I_113, m_113, w_113_0, -⟩ := hw_113
            have M_113 := dg_sm.tr M_105 m_113 (by decide) (by decide)
            obtain ⟨y_114, f_y_114, w_113_0⟩ := w_113_0
            have w_113_0 : (y_114).toInt ≤ (en).toInt ∧ ((kd (x_103 : Int32).toNatClampNeg).toInt ≠ 0 → (y_114 : Int32).toNatClampNeg = (x_103 : Int32).toNatClampNeg + 1) := w_113_0
            have b_y_114 : 0 ≤ (y_114).toInt ∧ (y_114).toInt ≤ 1600 := dg_I.intb (lo := 0) (hi := 1600) I_113 sX_209 (by decide +kernel) f_y_114
            have nq_y_114 : (y_114 : Int32).toNatClampNeg = (x_103 : Int32).toNatClampNeg + 1 := by have h9 := w_113_0.2 (g_o_ne qw_110_1); omega
            have ni_y_114 : (y_114).toInt = (x_103).toInt + 1 := by have h8 := dk_clN y_114; have h9 := dk_clN x_103; omega
            refine lv_aload_n hx hb dX6_readBoth_32 rfl (lv_at hl 2 rfl) ?_
            refine lv_iload_n hx hb dX6_readBoth_33 rfl (lv_at hl 3 rfl) ?_
            refine dg_calli hS hA1 hA (va_runV (As := [.int 1]) (rest := []) F (c_rd_readFact_1 l g D o S_113 en kd vl y_114 f_y_114 (by omega) ru (((m_113.1 209 6 _ sX_209 (by decide)).trans (M_105.1 209 6 _ sX_209 (by decide))).trans f_ru) (by omega) x_104 ((m_113.1 209 7 _ sX_209 (by decide)).trans ff_105_7_209) (by omega) ke ((congrFun ((m_113.2 211 _ sX_211 (by decide)).1.trans (M_105.2 211 _ sX_211 (by decide)).1) _).trans f_ke) (by omega) (by omega) (fun k9 h9 => (congrFun ((m_113.2 211 _ sX_211 (by decide)).1.trans (M_105.2 211 _ sX_211 (by decide)).1) k9).trans (hkd k9 h9)) (fun k9 h9 => (congrFun ((m_113.2 213 _ sX_213 (by decide)).1.trans (M_105.2 213 _ sX_213 (by decide)).1) k9).trans (hvl k9 h9)) (by omega) I_113 H.size) (cwV 1 hts (bw_V wB_140 wB_141 wB_142 wB_24 wB_139) rfl rfl rfl (by decide +kernel) ⟨Nat.le_of_ble_eq_true rfl, Nat.le_of_ble_eq_true rfl⟩) (dg_preV sX_209 rfl K ST hP hS hA1 hA) rfl rfl hl.1 rfl (lv_room (Nat.le_of_ble_eq_true rfl)) dX6_readBoth_34 ⟨Nat.le_of_ble_eq_true rfl, Nat.le_of_ble_eq_true rfl⟩) (fun x_115 S_116 hw_116 H locs hP hS => ?_)
            obtain ⟨I_116, m_116, w_116_0, w_116_1, -⟩ := hw_116
            have M_116 := dg_sm.tr M_113 m_116 (by decide) (by decide)
            have w_116_0 : 0 ≤ (x_115).toInt ∧ (x_115).toInt ≤ 1 := w_116_0
            obtain ⟨y_117, y_118, f_y_117, f_y_118, w_116_1⟩ := w_116_1
            have w_116_1 : ((y_117).toInt ≤ (en).toInt ∧ ((x_115).toInt = 1 → ((x_104).toInt + 1 ≤ (y_118).toInt ∧ (y_118).toInt - (x_104).toInt ≤ (y_117).toInt - (y_114).toInt))) ∧ g_ans x_115 ((x_lv kd vl (ru).toInt 7).2.2 (y_114 : Int32).toNatClampNeg) (y_117 : Int32).toNatClampNeg := w_116_1
            have b_y_117 : 0 ≤ (y_117).toInt ∧ (y_117).toInt ≤ 1600 := dg_I.intb (lo := 0) (hi := 1600) I_116 sX_209 (by decide +kernel) f_y_117
            have b_y_118 : 0 ≤ (y_118).toInt ∧ (y_118).toInt ≤ 1600 := dg_I.intb (lo := 0) (hi := 1600) I_116 sX_209 (by decide +kernel) f_y_118
            refine lv_istore_n (lv' := [(2, .int x_115), (3, .int x_101), (0, .ref (o + 209)), (1, .int 1)]) hx hb dX6_readBoth_37 rfl hl (by decide) rfl (fun ls hl => ?_)
            refine lv_aload_n hx hb dX6_readBoth_38 rfl (lv_at hl 2 rfl) ?_
            refine lv_bipush (v := (-20)) hx hb dX6_readBoth_39 (by decide +kernel) ?_
            refine dg_callv hS hA1 hA (va_runV (As := [.int (-20)]) (rest := []) F (c_rd_put l g D o S_116 (-20) en y_117 f_y_117 (by omega) y_118 f_y_118 (by omega) ke ((congrFun ((m_116.2 211 _ sX_211 (by decide)).1.trans ((m_113.2 211 _ sX_211 (by decide)).1.trans (M_105.2 211 _ sX_211 (by decide)).1)) _).trans f_ke) (by omega) (by omega) I_116 H.size) (cwV 1 hts (bw_V wB_96 wB_97 wB_98 wB_24 wB_95) rfl rfl rfl (by decide +kernel) ⟨Nat.le_of_ble_eq_true rfl, Nat.le_of_ble_eq_true rfl⟩) (dg_preV sX_209 rfl K ST hP hS hA1 hA) rfl rfl hl.1 rfl (lv_room (Nat.le_of_ble_eq_true rfl)) dX6_readBoth_41 ⟨Nat.le_of_ble_eq_true rfl, Nat.le_of_ble_eq_true rfl⟩) (fun S_119 hw_119 H locs hP hS => ?_)
            obtain ⟨I_119, m_119, w_119_0, -⟩ := hw_119
            have M_119 := dg_sm.tr M_116 m_119 (by decide) (by decide)
            have hz_120 : (-20 : Int32).toInt = (-20) := by decide +kernel
            obtain ⟨y_121, f_y_121, w_119_0⟩ := w_119_0
            have w_119_0 : (y_118).toInt < 1600 → (y_121).toInt = (y_118).toInt + 1 := w_119_0
            have b_y_121 : 0 ≤ (y_121).toInt ∧ (y_121).toInt ≤ 1600 := dg_I.intb (lo := 0) (hi := 1600) I_119 sX_209 (by decide +kernel) f_y_121
            obtain ⟨x_122, ex_122⟩ : ∃ z, z = x_101 + 1 := ⟨_, rfl⟩
            have jx_122 : (x_122).toInt = (x_101).toInt + 1 := by rw [ex_122]; exact dk_addT rfl (by decide +kernel) (by omega) (by omega)
            refine lv_iinc (v := x_122) (lv' := [(3, .int x_122), (2, .int x_115), (0, .ref (o + 209)), (1, .int 1)]) hx hb dX6_readBoth_44 hl (k := 1) rfl (by rw [ex_122]; rfl) (by decide) rfl (fun ls hl => ?_)
            refine lv_goto (tgt := 8) hx hb dX6_readBoth_47 (by decide) ?_
            exact ih x_122 x_115 y_117 y_121 (by omega) (by omega) (by omega) (by omega) (by omega) (by omega) S_119 I_119 M_119 ((m_119.1 209 4 _ sX_209 (by decide)).trans f_y_117) f_y_121 (g_it.step srel_105_0 (by omega) (by omega) qw_110_1 (by have h9 := w_116_1.2; rw [nq_y_114] at h9; exact h9)) (by omega) _ _ hP hS _ (lv_sub hl [0, 1, 2, 3] rfl)
  have hz_123 : (0 : Int32).toInt = 0 := by decide +kernel
  have hz_124 : (0 : Int32).toInt = 0 := by decide +kernel
  have hz_125 : (0 : Int32).toInt = 0 := by decide +kernel
  exact L_106 ((1601 - ((0 : Int32)).toInt).toNat + 1) 0 x_1 y_3 y_4 (by decide +kernel) (by omega) (by omega) (by omega) (by omega) (by omega) S_2 I_2 M_2 f_y_3 f_y_4 (by rw [show (1600 - (0 : Int32).toInt).toNat = 1600 from by decide +kernel]; exact g_it.start w_2_1.2) (by omega) _ _ hP hS _ (lv_sub hl [0, 1, 2, 3] rfl)
set_option maxHeartbeats 8000000 in
set_option maxRecDepth 100000 in
theorem c_rd_readTest_1 (l : Launch) (g : Nat → ClassId) (D : va_G) (o : Nat) (S : dg_S) (en : Int32) (kd : Nat → Int32) (vl : Nat → Int32) (n0 : Int32) (f_n0 : S.1 209 4 = .int n0) (b_n0 : 0 ≤ (n0).toInt ∧ (n0).toInt ≤ 1600) (ru : Int32) (f_ru : S.1 209 6 = .int ru) (b_ru : 0 ≤ (ru).toInt ∧ (ru).toInt ≤ 2) (sc : Int32) (f_sc : S.1 209 7 = .int sc) (b_sc : 0 ≤ (sc).toInt ∧ (sc).toInt ≤ 1600) (ke : Int32) (f_ke : S.2.1 211 (en : Int32).toNatClampNeg = ke) (b_ke : 0 ≤ (ke).toInt ∧ (ke).toInt ≤ 0) (hne : (n0).toInt ≤ (en).toInt ∧ (en).toInt ≤ 1600 ∧ 0 ≤ (en).toInt) (hkd : ∀ k9 : Nat, k9 ≤ (en : Int32).toNatClampNeg → S.2.1 211 k9 = kd k9) (hvl : ∀ k9 : Nat, k9 ≤ (en : Int32).toNatClampNeg → S.2.1 213 k9 = vl k9) (hsc : (sc).toInt ≤ (n0).toInt) (I : CX o S) (sz : Nat) : Met l yX6_readTest (bw yX6_readTest cX6_readTest 4 (some .boolean)) ({ frames := 59, cells := 0, slots := 0, locals := 1355 } : Room) (dk_Pc g D (dg_w g shX o rfX S) sz [.ref (o + 209), .int 1]) (va_Qi (fun (r : Int32) S' => CX o S' ∧ dg_sm shX [(31, 0), (31, 1), (31, 4), (31, 7)] [28] S S' ∧ (0 ≤ (r).toInt ∧ (r).toInt ≤ 1) ∧ (∃ y9_4 y9_7 : Int32, S'.1 209 4 = .int y9_4 ∧ S'.1 209 7 = .int y9_7 ∧ (((y9_4).toInt ≤ (en).toInt ∧ ((r).toInt = 1 → ((sc).toInt + 1 ≤ (y9_7).toInt ∧ (y9_7).toInt - (sc).toInt ≤ (y9_4).toInt - (n0).toInt))) ∧ g_ans r ((x_lv kd vl (ru).toInt 7).2.1 (n0 : Int32).toNatClampNeg) (y9_4 : Int32).toNatClampNeg)) ∧ True) (dg_B g D shX o rfX) (dg_A o shX.length sz)) 0 0 (dg_A o shX.length sz) := by
  refine dg_met (cc := cX6_readTest) (maxL := 4) (ret := (some .boolean)) (by decide) rfl (Nat.le_of_ble_eq_true rfl) ?_
  intro p e s m args below meth c A hAe harg hx hb hr hml hts hown hlocks hin hP K hS hA1 hA ST hsz ls hl
  rw [← hAe]
  have F : CallFix p m c cX6_readTest 4 s args (bw yX6_readTest cX6_readTest 4 (some .boolean)) RX6 := ⟨hx, hb, hml, hown, hts⟩
  have hl : lv_has ls 4 [(0, .ref (o + 209)), (1, .int 1)] := hl
  have M_0 : dg_sm shX [(31, 0), (31, 1), (31, 4), (31, 7)] [28] S S := dg_sm.rf
  refine lv_aload_n hx hb dX6_readTest_0 rfl (lv_at hl 0 rfl) ?_
  refine lv_iload_n hx hb dX6_readTest_1 rfl (lv_at hl 1 rfl) ?_
  refine dg_calli hS hA1 hA (va_runV (As := [.int 1]) (rest := []) F (c_rd_readBoth_1 l g D o S en kd vl n0 f_n0 (by omega) ru f_ru (by omega) sc f_sc (by omega) ke f_ke (by omega) (by omega) hkd hvl (by omega) I s.heap.size) (cwV 1 hts (bw_V wB_144 wB_145 wB_146 wB_24 wB_143) rfl rfl rfl (by decide +kernel) ⟨Nat.le_of_ble_eq_true rfl, Nat.le_of_ble_eq_true rfl⟩) (dg_preV sX_209 rfl K ST hP hS hA1 hA) rfl rfl hl.1 rfl (lv_room (Nat.le_of_ble_eq_true rfl)) dX6_readTest_2 ⟨Nat.le_of_ble_eq_true rfl, Nat.le_of_ble_eq_true rfl⟩) (fun x_1 S_2 hw_2 H locs hP hS => ?_)
  obtain ⟨I_2, m_2, w_2_0, w_2_1, -⟩ := hw_2
  have M_2 := dg_sm.tr M_0 m_2 (by decide) (by decide)
  have w_2_0 : 0 ≤ (x_1).toInt ∧ (x_1).toInt ≤ 1 := w_2_0
  obtain ⟨y_3, y_4, f_y_3, f_y_4, w_2_1⟩ := w_2_1
  have w_2_1 : ((y_3).toInt ≤ (en).toInt ∧ ((x_1).toInt = 1 → ((sc).toInt + 1 ≤ (y_4).toInt ∧ (y_4).toInt - (sc).toInt ≤ (y_3).toInt - (n0).toInt))) ∧ g_ans x_1 (x_both kd vl (x_lv kd vl (ru).toInt 7).2.2 (n0 : Int32).toNatClampNeg) (y_3 : Int32).toNatClampNeg := w_2_1
  have b_y_3 : 0 ≤ (y_3).toInt ∧ (y_3).toInt ≤ 1600 := dg_I.intb (lo := 0) (hi := 1600) I_2 sX_209 (by decide +kernel) f_y_3
  have b_y_4 : 0 ≤ (y_4).toInt ∧ (y_4).toInt ≤ 1600 := dg_I.intb (lo := 0) (hi := 1600) I_2 sX_209 (by decide +kernel) f_y_4
  refine lv_istore_n (lv' := [(2, .int x_1), (0, .ref (o + 209)), (1, .int 1)]) hx hb dX6_readTest_5 rfl hl (by decide) rfl (fun ls hl => ?_)
  refine lv_iconst (v := 0) hx hb dX6_readTest_6 (by decide +kernel) ?_
  refine lv_istore_n (lv' := [(3, .int 0), (2, .int x_1), (0, .ref (o + 209)), (1, .int 1)]) hx hb dX6_readTest_7 rfl hl (by decide) rfl (fun ls hl => ?_)
  have L_106 : ∀ (n : Nat) (x_101 : Int32) (x_102 : Int32) (x_103 : Int32) (x_104 : Int32), (0 ≤ (x_101).toInt ∧ (x_101).toInt ≤ 1600) → (0 ≤ (x_102).toInt ∧ (x_102).toInt ≤ 1) → (0 ≤ (x_103).toInt ∧ (x_103).toInt ≤ 1600) → (0 ≤ (x_104).toInt ∧ (x_104).toInt ≤ 1600) → ((x_103).toInt ≤ (en).toInt) → ((1601 - (x_101).toInt).toNat < n) → ∀ S_105 : dg_S, CX o S_105 → dg_sm shX [(31, 0), (31, 1), (31, 4), (31, 7)] [28] S S_105 → S_105.1 209 4 = .int x_103 → S_105.1 209 7 = .int x_104 → (g_it x_102 (x_test kd vl (x_lv kd vl (ru).toInt 7).2.2 (n0 : Int32).toNatClampNeg) (g_o kd vl 21) (x_both kd vl (x_lv kd vl (ru).toInt 7).2.2) (1600 - (x_101 : Int32).toInt).toNat (x_103 : Int32).toNatClampNeg) → (((x_102).toInt = 1 → ((sc).toInt + 1 ≤ (x_104).toInt ∧ (x_104).toInt - (sc).toInt ≤ (x_103).toInt - (n0).toInt))) → ∀ (H : Heap) (locs : List Loc), va_P D vwCl (dg_w g shX o rfX S_105) H → va_S A s.heap H locs → ∀ ls : Array Slot, lv_has ls 4 [(3, .int x_101), (2, .int x_102), (0, .ref (o + 209)), (1, .int 1)] → W p l e ({ frames := 59, cells := 0, slots := 0, locals := 1355 } : Room) s m args below meth c H locs 0 0 (MQ below (va_Qi (fun (r : Int32) S' => CX o S' ∧ dg_sm shX [(31, 0), (31, 1), (31, 4), (31, 7)] [28] S S' ∧ (0 ≤ (r).toInt ∧ (r).toInt ≤ 1) ∧ (∃ y9_4 y9_7 : Int32, S'.1 209 4 = .int y9_4 ∧ S'.1 209 7 = .int y9_7 ∧ (((y9_4).toInt ≤ (en).toInt ∧ ((r).toInt = 1 → ((sc).toInt + 1 ≤ (y9_7).toInt ∧ (y9_7).toInt - (sc).toInt ≤ (y9_4).toInt - (n0).toInt))) ∧ g_ans r ((x_lv kd vl (ru).toInt 7).2.1 (n0 : Int32).toNatClampNeg) (y9_4 : Int32).toNatClampNeg)) ∧ True) (dg_B g D shX o rfX) A) args s 0 0 A) (F0 m 8 ls []) := by
    intro n
    induction n with
    | zero =>
      intro x_101 x_102 x_103 x_104 b_x_101 b_x_102 b_x_103 b_x_104 rel_0 hmu S_105 I_105 M_105 ff_105_4_209 ff_105_7_209 srel_105_0 srel_105_1 H locs hP hS ls hl
      omega
    | succ n ih =>
      intro x_101 x_102 x_103 x_104 b_x_101 b_x_102 b_x_103 b_x_104 rel_0 hmu S_105 I_105 M_105 ff_105_4_209 ff_105_7_209 srel_105_0 srel_105_1 H locs hP hS ls hl
      refine lv_iload_n hx hb dX6_readTest_8 rfl (lv_at hl 0 rfl) ?_
      refine lv_sipush (v := 1600) hx hb dX6_readTest_9 (by decide +kernel) ?_
      refine lv_icmp_ge (tgt := 50) hx hb dX6_readTest_12 (by decide) (fun c_107 => ?_) (fun c_107 => ?_)
      · have jc_107 := dk_gec (k := 1600) (by decide +kernel) c_107
        refine lv_iload_n hx hb dX6_readTest_50 rfl (lv_at hl 1 rfl) ?_
        refine W.widen (k := 0) (n := 0) (Nat.le_of_ble_eq_true rfl) (Nat.le_of_ble_eq_true rfl) ?_
        exact dg_iret hx hb hr hlocks (dk_znar (by omega) (by omega)) hP hS ⟨I_105, M_105, (by omega), ⟨x_103, x_104, ff_105_4_209, ff_105_7_209, ⟨⟨by omega, by omega⟩, (show g_ans x_102 (x_test kd vl (x_lv kd vl (ru).toInt 7).2.2 (n0 : Int32).toNatClampNeg) (x_103 : Int32).toNatClampNeg from g_it.stop srel_105_0 (fun _ => Or.inl (by omega)))⟩⟩, trivial⟩ dX6_readTest_51
      · have jc_107 := dk_ngec (k := 1600) (by decide +kernel) c_107
        refine lv_iload_n hx hb dX6_readTest_15 rfl (lv_at hl 1 rfl) ?_
        refine lv_if_eq (tgt := 50) hx hb dX6_readTest_16 (by decide) (fun c_108 => ?_) (fun c_108 => ?_)
        · have jc_108 := dk_eqc (k := 0) (by decide +kernel) c_108
          refine lv_iload_n hx hb dX6_readTest_50 rfl (lv_at hl 1 rfl) ?_
          refine W.widen (k := 0) (n := 0) (Nat.le_of_ble_eq_true rfl) (Nat.le_of_ble_eq_true rfl) ?_
          exact dg_iret hx hb hr hlocks (dk_znar (by omega) (by omega)) hP hS ⟨I_105, M_105, (by omega), ⟨x_103, x_104, ff_105_4_209, ff_105_7_209, ⟨⟨by omega, by omega⟩, (show g_ans x_102 (x_test kd vl (x_lv kd vl (ru).toInt 7).2.2 (n0 : Int32).toNatClampNeg) (x_103 : Int32).toNatClampNeg from g_it.stop srel_105_0 (fun h9 => absurd h9 (by omega)))⟩⟩, trivial⟩ dX6_readTest_51
        · have jc_108 := dk_neqc (k := 0) (by decide +kernel) c_108
          refine lv_aload_n hx hb dX6_readTest_19 rfl (lv_at hl 2 rfl) ?_
          refine lv_bipush (v := 21) hx hb dX6_readTest_20 (by decide +kernel) ?_
          refine dg_calli hS hA1 hA (va_runV (As := [.int 21]) (rest := []) F (c_rd_isOwn l g D o S_105 21 en kd vl x_103 ff_105_4_209 (by omega) ke ((congrFun (M_105.2 211 _ sX_211 (by decide)).1 _).trans f_ke) (by omega) (by omega) (fun k9 h9 => (congrFun (M_105.2 211 _ sX_211 (by decide)).1 k9).trans (hkd k9 h9)) (fun k9 h9 => (congrFun (M_105.2 213 _ sX_213 (by decide)).1 k9).trans (hvl k9 h9)) I_105 H.size) (cwV 1 hts (bw_V wB_21 wB_22 wB_23 wB_24 wB_20) rfl rfl rfl (by decide +kernel) ⟨Nat.le_of_ble_eq_true rfl, Nat.le_of_ble_eq_true rfl⟩) (dg_preV sX_209 rfl K ST hP hS hA1 hA) rfl rfl hl.1 rfl (lv_room (Nat.le_of_ble_eq_true rfl)) dX6_readTest_22 ⟨Nat.le_of_ble_eq_true rfl, Nat.le_of_ble_eq_true rfl⟩) (fun x_109 S_110 hw_110 H locs hP hS => ?_)
          rw [hw_110.1] at hP
          obtain ⟨hq_110, w_110_0, w_110_1, -⟩ := hw_110
          have hz_111 : (21 : Int32).toInt = 21 := by decide +kernel
          have w_110_0 : 0 ≤ (x_109).toInt ∧ (x_109).toInt ≤ 1 := w_110_0
          have w_110_1 : (x_109).toInt = 1 ↔ g_o kd vl ((21 : Int32)).toInt (x_103 : Int32).toNatClampNeg = true := w_110_1
          refine lv_if_eq (tgt := 50) hx hb dX6_readTest_25 (by decide) (fun c_112 => ?_) (fun c_112 => ?_)
          · have jc_112 := dk_eqc (k := 0) (by decide +kernel) c_112
            have qw_110_1 : g_o kd vl 21 (x_103 : Int32).toNatClampNeg = false := by have h9 := g_iff_f w_110_1 (by omega); rw [show (21 : Int32).toInt = 21 from by decide +kernel] at h9; exact h9
            refine lv_iload_n hx hb dX6_readTest_50 rfl (lv_at hl 1 rfl) ?_
            refine W.widen (k := 0) (n := 0) (Nat.le_of_ble_eq_true rfl) (Nat.le_of_ble_eq_true rfl) ?_
            exact dg_iret hx hb hr hlocks (dk_znar (by omega) (by omega)) hP hS ⟨I_105, M_105, (by omega), ⟨x_103, x_104, ff_105_4_209, ff_105_7_209, ⟨⟨by omega, by omega⟩, (show g_ans x_102 (x_test kd vl (x_lv kd vl (ru).toInt 7).2.2 (n0 : Int32).toNatClampNeg) (x_103 : Int32).toNatClampNeg from g_it.stop srel_105_0 (fun _ => Or.inr qw_110_1))⟩⟩, trivial⟩ dX6_readTest_51
          · have jc_112 := dk_neqc (k := 0) (by decide +kernel) c_112
            have qw_110_1 : g_o kd vl 21 (x_103 : Int32).toNatClampNeg = true := by have h9 := w_110_1.mp (by omega); rw [show (21 : Int32).toInt = 21 from by decide +kernel] at h9; exact h9
            refine lv_aload_n hx hb dX6_readTest_28 rfl (lv_at hl 2 rfl) ?_
            refine dg_callv hS hA1 hA (va_runV (As := []) (rest := []) F (c_rd_pass l g D o S_105 en kd vl x_103 ff_105_4_209 (by omega) ke ((congrFun (M_105.2 211 _ sX_211 (by decide)).1 _).trans f_ke) (by omega) (by omega) (fun k9 h9 => (congrFun (M_105.2 211 _ sX_211 (by decide)).1 k9).trans (hkd k9 h9)) (fun k9 h9 => (congrFun (M_105.2 213 _ sX_213 (by decide)).1 k9).trans (hvl k9 h9)) I_105 H.size) (cwV 0 hts (bw_V wB_26 wB_27 wB_28 wB_24 wB_25) rfl rfl rfl (by decide +kernel) ⟨Nat.le_of_ble_eq_true rfl, Nat.le_of_ble_eq_true rfl⟩) (dg_preV sX_209 rfl K ST hP hS hA1 hA) rfl rfl hl.1 rfl (lv_room (Nat.le_of_ble_eq_true rfl)) dX6_readTest_29 ⟨Nat.le_of_ble_eq_true rfl, Nat.le_of_ble_eq_true rfl⟩) (fun S_113 hw_113 H locs hP hS => ?_)
            obtain ⟨I_113, m_113, w_113_0, -⟩ := hw_113
            have M_113 := dg_sm.tr M_105 m_113 (by decide) (by decide)
            obtain ⟨y_114, f_y_114, w_113_0⟩ := w_113_0
            have w_113_0 : (y_114).toInt ≤ (en).toInt ∧ ((kd (x_103 : Int32).toNatClampNeg).toInt ≠ 0 → (y_114 : Int32).toNatClampNeg = (x_103 : Int32).toNatClampNeg + 1) := w_113_0
            have b_y_114 : 0 ≤ (y_114).toInt ∧ (y_114).toInt ≤ 1600 := dg_I.intb (lo := 0) (hi := 1600) I_113 sX_209 (by decide +kernel) f_y_114
            have nq_y_114 : (y_114 : Int32).toNatClampNeg = (x_103 : Int32).toNatClampNeg + 1 := by have h9 := w_113_0.2 (g_o_ne qw_110_1); omega
            have ni_y_114 : (y_114).toInt = (x_103).toInt + 1 := by have h8 := dk_clN y_114; have h9 := dk_clN x_103; omega
            refine lv_aload_n hx hb dX6_readTest_32 rfl (lv_at hl 2 rfl) ?_
            refine lv_iload_n hx hb dX6_readTest_33 rfl (lv_at hl 3 rfl) ?_
            refine dg_calli hS hA1 hA (va_runV (As := [.int 1]) (rest := []) F (c_rd_readBoth_1 l g D o S_113 en kd vl y_114 f_y_114 (by omega) ru (((m_113.1 209 6 _ sX_209 (by decide)).trans (M_105.1 209 6 _ sX_209 (by decide))).trans f_ru) (by omega) x_104 ((m_113.1 209 7 _ sX_209 (by decide)).trans ff_105_7_209) (by omega) ke ((congrFun ((m_113.2 211 _ sX_211 (by decide)).1.trans (M_105.2 211 _ sX_211 (by decide)).1) _).trans f_ke) (by omega) (by omega) (fun k9 h9 => (congrFun ((m_113.2 211 _ sX_211 (by decide)).1.trans (M_105.2 211 _ sX_211 (by decide)).1) k9).trans (hkd k9 h9)) (fun k9 h9 => (congrFun ((m_113.2 213 _ sX_213 (by decide)).1.trans (M_105.2 213 _ sX_213 (by decide)).1) k9).trans (hvl k9 h9)) (by omega) I_113 H.size) (cwV 1 hts (bw_V wB_144 wB_145 wB_146 wB_24 wB_143) rfl rfl rfl (by decide +kernel) ⟨Nat.le_of_ble_eq_true rfl, Nat.le_of_ble_eq_true rfl⟩) (dg_preV sX_209 rfl K ST hP hS hA1 hA) rfl rfl hl.1 rfl (lv_room (Nat.le_of_ble_eq_true rfl)) dX6_readTest_34 ⟨Nat.le_of_ble_eq_true rfl, Nat.le_of_ble_eq_true rfl⟩) (fun x_115 S_116 hw_116 H locs hP hS => ?_)
            obtain ⟨I_116, m_116, w_116_0, w_116_1, -⟩ := hw_116
            have M_116 := dg_sm.tr M_113 m_116 (by decide) (by decide)
            have w_116_0 : 0 ≤ (x_115).toInt ∧ (x_115).toInt ≤ 1 := w_116_0
            obtain ⟨y_117, y_118, f_y_117, f_y_118, w_116_1⟩ := w_116_1
            have w_116_1 : ((y_117).toInt ≤ (en).toInt ∧ ((x_115).toInt = 1 → ((x_104).toInt + 1 ≤ (y_118).toInt ∧ (y_118).toInt - (x_104).toInt ≤ (y_117).toInt - (y_114).toInt))) ∧ g_ans x_115 (x_both kd vl (x_lv kd vl (ru).toInt 7).2.2 (y_114 : Int32).toNatClampNeg) (y_117 : Int32).toNatClampNeg := w_116_1
            have b_y_117 : 0 ≤ (y_117).toInt ∧ (y_117).toInt ≤ 1600 := dg_I.intb (lo := 0) (hi := 1600) I_116 sX_209 (by decide +kernel) f_y_117
            have b_y_118 : 0 ≤ (y_118).toInt ∧ (y_118).toInt ≤ 1600 := dg_I.intb (lo := 0) (hi := 1600) I_116 sX_209 (by decide +kernel) f_y_118
            refine lv_istore_n (lv' := [(2, .int x_115), (3, .int x_101), (0, .ref (o + 209)), (1, .int 1)]) hx hb dX6_readTest_37 rfl hl (by decide) rfl (fun ls hl => ?_)
            refine lv_aload_n hx hb dX6_readTest_38 rfl (lv_at hl 2 rfl) ?_
            refine lv_bipush (v := (-21)) hx hb dX6_readTest_39 (by decide +kernel) ?_
            refine dg_callv hS hA1 hA (va_runV (As := [.int (-21)]) (rest := []) F (c_rd_put l g D o S_116 (-21) en y_117 f_y_117 (by omega) y_118 f_y_118 (by omega) ke ((congrFun ((m_116.2 211 _ sX_211 (by decide)).1.trans ((m_113.2 211 _ sX_211 (by decide)).1.trans (M_105.2 211 _ sX_211 (by decide)).1)) _).trans f_ke) (by omega) (by omega) I_116 H.size) (cwV 1 hts (bw_V wB_96 wB_97 wB_98 wB_24 wB_95) rfl rfl rfl (by decide +kernel) ⟨Nat.le_of_ble_eq_true rfl, Nat.le_of_ble_eq_true rfl⟩) (dg_preV sX_209 rfl K ST hP hS hA1 hA) rfl rfl hl.1 rfl (lv_room (Nat.le_of_ble_eq_true rfl)) dX6_readTest_41 ⟨Nat.le_of_ble_eq_true rfl, Nat.le_of_ble_eq_true rfl⟩) (fun S_119 hw_119 H locs hP hS => ?_)
            obtain ⟨I_119, m_119, w_119_0, -⟩ := hw_119
            have M_119 := dg_sm.tr M_116 m_119 (by decide) (by decide)
            have hz_120 : (-21 : Int32).toInt = (-21) := by decide +kernel
            obtain ⟨y_121, f_y_121, w_119_0⟩ := w_119_0
            have w_119_0 : (y_118).toInt < 1600 → (y_121).toInt = (y_118).toInt + 1 := w_119_0
            have b_y_121 : 0 ≤ (y_121).toInt ∧ (y_121).toInt ≤ 1600 := dg_I.intb (lo := 0) (hi := 1600) I_119 sX_209 (by decide +kernel) f_y_121
            obtain ⟨x_122, ex_122⟩ : ∃ z, z = x_101 + 1 := ⟨_, rfl⟩
            have jx_122 : (x_122).toInt = (x_101).toInt + 1 := by rw [ex_122]; exact dk_addT rfl (by decide +kernel) (by omega) (by omega)
            refine lv_iinc (v := x_122) (lv' := [(3, .int x_122), (2, .int x_115), (0, .ref (o + 209)), (1, .int 1)]) hx hb dX6_readTest_44 hl (k := 1) rfl (by rw [ex_122]; rfl) (by decide) rfl (fun ls hl => ?_)
            refine lv_goto (tgt := 8) hx hb dX6_readTest_47 (by decide) ?_
            exact ih x_122 x_115 y_117 y_121 (by omega) (by omega) (by omega) (by omega) (by omega) (by omega) S_119 I_119 M_119 ((m_119.1 209 4 _ sX_209 (by decide)).trans f_y_117) f_y_121 (g_it.step srel_105_0 (by omega) (by omega) qw_110_1 (by have h9 := w_116_1.2; rw [nq_y_114] at h9; exact h9)) (by omega) _ _ hP hS _ (lv_sub hl [0, 1, 2, 3] rfl)
  have hz_123 : (0 : Int32).toInt = 0 := by decide +kernel
  have hz_124 : (0 : Int32).toInt = 0 := by decide +kernel
  have hz_125 : (0 : Int32).toInt = 0 := by decide +kernel
  exact L_106 ((1601 - ((0 : Int32)).toInt).toNat + 1) 0 x_1 y_3 y_4 (by decide +kernel) (by omega) (by omega) (by omega) (by omega) (by omega) S_2 I_2 M_2 f_y_3 f_y_4 (by rw [show (1600 - (0 : Int32).toInt).toNat = 1600 from by decide +kernel]; exact g_it.start w_2_1.2) (by omega) _ _ hP hS _ (lv_sub hl [0, 1, 2, 3] rfl)
