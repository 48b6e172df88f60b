/-! 25.l1.lean.txt -/
theorem dX6_readFact_17 : decode cX6_readFact 17 = .ok (.aload_n 0, 1) := dk_o42 (by decide +kernel)
theorem dX6_readFact_18 : decode cX6_readFact 18 = .ok (.iload_n 1, 1) := dk_o27 (by decide +kernel)
theorem dX6_readFact_19 : decode cX6_readFact 19 = .ok (.iconst 1, 1) := dk_o4 (by decide +kernel)
theorem dX6_readFact_20 : decode cX6_readFact 20 = .ok (.iadd, 1) := dk_o96 (by decide +kernel)
theorem dX6_readFact_21 : decode cX6_readFact 21 = .ok (.invokevirtual 192, 3) := dk_o182 (by decide +kernel)
theorem dX6_readFact_24 : decode cX6_readFact 24 = .ok (.ifCond .eq 7, 3) := dk_o153 (by decide +kernel)
theorem dX6_readFact_27 : decode cX6_readFact 27 = .ok (.iconst 1, 1) := dk_o4 (by decide +kernel)
theorem dX6_readFact_28 : decode cX6_readFact 28 = .ok (.goto 4, 3) := dk_o167 (by decide +kernel)
theorem dX6_readFact_58 : decode cX6_readFact 58 = .ok (.aload_n 0, 1) := dk_o42 (by decide +kernel)
theorem dX6_readFact_59 : decode cX6_readFact 59 = .ok (.iload_n 1, 1) := dk_o27 (by decide +kernel)
theorem dX6_readFact_60 : decode cX6_readFact 60 = .ok (.iconst 1, 1) := dk_o4 (by decide +kernel)
theorem dX6_readFact_61 : decode cX6_readFact 61 = .ok (.iadd, 1) := dk_o96 (by decide +kernel)
theorem dX6_readFact_62 : decode cX6_readFact 62 = .ok (.invokevirtual 176, 3) := dk_o182 (by decide +kernel)
theorem dX6_readFact_65 : decode cX6_readFact 65 = .ok (.ifCond .eq 16, 3) := dk_o153 (by decide +kernel)
theorem dX6_readFact_68 : decode cX6_readFact 68 = .ok (.aload_n 0, 1) := dk_o42 (by decide +kernel)
theorem dX6_readFact_69 : decode cX6_readFact 69 = .ok (.bipush 93, 2) := dk_o16 (by decide +kernel)
theorem dX6_readFact_71 : decode cX6_readFact 71 = .ok (.invokevirtual 52, 3) := dk_o182 (by decide +kernel)
theorem dX6_readFact_74 : decode cX6_readFact 74 = .ok (.ifCond .eq 7, 3) := dk_o153 (by decide +kernel)
theorem dX6_readFact_77 : decode cX6_readFact 77 = .ok (.iconst 1, 1) := dk_o4 (by decide +kernel)
theorem dX6_readFact_78 : decode cX6_readFact 78 = .ok (.goto 4, 3) := dk_o167 (by decide +kernel)
theorem dX6_readPart_17 : decode cX6_readPart 17 = .ok (.aload_n 0, 1) := dk_o42 (by decide +kernel)
theorem dX6_readPart_18 : decode cX6_readPart 18 = .ok (.iload_n 1, 1) := dk_o27 (by decide +kernel)
theorem dX6_readPart_19 : decode cX6_readPart 19 = .ok (.iconst 1, 1) := dk_o4 (by decide +kernel)
theorem dX6_readPart_20 : decode cX6_readPart 20 = .ok (.iadd, 1) := dk_o96 (by decide +kernel)
theorem dX6_readPart_21 : decode cX6_readPart 21 = .ok (.invokevirtual 179, 3) := dk_o182 (by decide +kernel)
theorem dX6_readPart_24 : decode cX6_readPart 24 = .ok (.ifCond .eq 16, 3) := dk_o153 (by decide +kernel)
theorem dX6_readPart_27 : decode cX6_readPart 27 = .ok (.aload_n 0, 1) := dk_o42 (by decide +kernel)
theorem dX6_readPart_28 : decode cX6_readPart 28 = .ok (.bipush 41, 2) := dk_o16 (by decide +kernel)
theorem dX6_readPart_30 : decode cX6_readPart 30 = .ok (.invokevirtual 52, 3) := dk_o182 (by decide +kernel)
theorem dX6_readPart_33 : decode cX6_readPart 33 = .ok (.ifCond .eq 7, 3) := dk_o153 (by decide +kernel)
theorem dX6_readPart_36 : decode cX6_readPart 36 = .ok (.iconst 1, 1) := dk_o4 (by decide +kernel)
theorem dX6_readPart_37 : decode cX6_readPart 37 = .ok (.goto 4, 3) := dk_o167 (by decide +kernel)
theorem dX6_readChoice_12 : decode cX6_readChoice 12 = .ok (.aload_n 0, 1) := dk_o42 (by decide +kernel)
theorem dX6_readChoice_13 : decode cX6_readChoice 13 = .ok (.iload_n 1, 1) := dk_o27 (by decide +kernel)
theorem dX6_readChoice_14 : decode cX6_readChoice 14 = .ok (.iconst 1, 1) := dk_o4 (by decide +kernel)
theorem dX6_readChoice_15 : decode cX6_readChoice 15 = .ok (.iadd, 1) := dk_o96 (by decide +kernel)
theorem dX6_readChoice_16 : decode cX6_readChoice 16 = .ok (.invokevirtual 176, 3) := dk_o182 (by decide +kernel)
theorem dX6_readChoice_19 : decode cX6_readChoice 19 = .ok (.ifCond .eq 54, 3) := dk_o153 (by decide +kernel)
theorem dX6_readChoice_22 : decode cX6_readChoice 22 = .ok (.aload_n 0, 1) := dk_o42 (by decide +kernel)
theorem dX6_readChoice_23 : decode cX6_readChoice 23 = .ok (.bipush 44, 2) := dk_o16 (by decide +kernel)
theorem dX6_readChoice_25 : decode cX6_readChoice 25 = .ok (.invokevirtual 52, 3) := dk_o182 (by decide +kernel)
theorem dX6_readChoice_28 : decode cX6_readChoice 28 = .ok (.ifCond .eq 45, 3) := dk_o153 (by decide +kernel)
theorem dX6_readChoice_31 : decode cX6_readChoice 31 = .ok (.aload_n 0, 1) := dk_o42 (by decide +kernel)
theorem dX6_readChoice_32 : decode cX6_readChoice 32 = .ok (.iload_n 1, 1) := dk_o27 (by decide +kernel)
theorem dX6_readChoice_33 : decode cX6_readChoice 33 = .ok (.iconst 1, 1) := dk_o4 (by decide +kernel)
theorem dX6_readChoice_34 : decode cX6_readChoice 34 = .ok (.iadd, 1) := dk_o96 (by decide +kernel)
theorem dX6_readChoice_35 : decode cX6_readChoice 35 = .ok (.invokevirtual 179, 3) := dk_o182 (by decide +kernel)
theorem dX6_readChoice_38 : decode cX6_readChoice 38 = .ok (.ifCond .eq 35, 3) := dk_o153 (by decide +kernel)
theorem dX6_readChoice_41 : decode cX6_readChoice 41 = .ok (.aload_n 0, 1) := dk_o42 (by decide +kernel)
theorem dX6_readChoice_42 : decode cX6_readChoice 42 = .ok (.bipush 44, 2) := dk_o16 (by decide +kernel)
theorem dX6_readChoice_44 : decode cX6_readChoice 44 = .ok (.invokevirtual 52, 3) := dk_o182 (by decide +kernel)
theorem dX6_readChoice_47 : decode cX6_readChoice 47 = .ok (.ifCond .eq 26, 3) := dk_o153 (by decide +kernel)
theorem dX6_readChoice_50 : decode cX6_readChoice 50 = .ok (.aload_n 0, 1) := dk_o42 (by decide +kernel)
theorem dX6_readChoice_51 : decode cX6_readChoice 51 = .ok (.iload_n 1, 1) := dk_o27 (by decide +kernel)
theorem dX6_readChoice_52 : decode cX6_readChoice 52 = .ok (.iconst 1, 1) := dk_o4 (by decide +kernel)
theorem dX6_readChoice_53 : decode cX6_readChoice 53 = .ok (.iadd, 1) := dk_o96 (by decide +kernel)
theorem dX6_readChoice_54 : decode cX6_readChoice 54 = .ok (.invokevirtual 179, 3) := dk_o182 (by decide +kernel)
theorem dX6_readChoice_57 : decode cX6_readChoice 57 = .ok (.ifCond .eq 16, 3) := dk_o153 (by decide +kernel)
theorem dX6_readChoice_60 : decode cX6_readChoice 60 = .ok (.aload_n 0, 1) := dk_o42 (by decide +kernel)
theorem dX6_readChoice_61 : decode cX6_readChoice 61 = .ok (.bipush 41, 2) := dk_o16 (by decide +kernel)
theorem dX6_readChoice_63 : decode cX6_readChoice 63 = .ok (.invokevirtual 52, 3) := dk_o182 (by decide +kernel)
theorem dX6_readChoice_66 : decode cX6_readChoice 66 = .ok (.ifCond .eq 7, 3) := dk_o153 (by decide +kernel)
theorem dX6_readChoice_69 : decode cX6_readChoice 69 = .ok (.iconst 1, 1) := dk_o4 (by decide +kernel)
theorem dX6_readChoice_70 : decode cX6_readChoice 70 = .ok (.goto 4, 3) := dk_o167 (by decide +kernel)
theorem dX6_readPair_12 : decode cX6_readPair 12 = .ok (.aload_n 0, 1) := dk_o42 (by decide +kernel)
theorem dX6_readPair_13 : decode cX6_readPair 13 = .ok (.iload_n 1, 1) := dk_o27 (by decide +kernel)
theorem dX6_readPair_14 : decode cX6_readPair 14 = .ok (.iconst 1, 1) := dk_o4 (by decide +kernel)
theorem dX6_readPair_15 : decode cX6_readPair 15 = .ok (.iadd, 1) := dk_o96 (by decide +kernel)
theorem dX6_readPair_16 : decode cX6_readPair 16 = .ok (.invokevirtual 179, 3) := dk_o182 (by decide +kernel)
theorem dX6_readPair_19 : decode cX6_readPair 19 = .ok (.ifCond .eq 35, 3) := dk_o153 (by decide +kernel)
theorem dX6_readPair_22 : decode cX6_readPair 22 = .ok (.aload_n 0, 1) := dk_o42 (by decide +kernel)
theorem dX6_readPair_23 : decode cX6_readPair 23 = .ok (.bipush 44, 2) := dk_o16 (by decide +kernel)
theorem dX6_readPair_25 : decode cX6_readPair 25 = .ok (.invokevirtual 52, 3) := dk_o182 (by decide +kernel)
theorem dX6_readPair_28 : decode cX6_readPair 28 = .ok (.ifCond .eq 26, 3) := dk_o153 (by decide +kernel)
theorem dX6_readPair_31 : decode cX6_readPair 31 = .ok (.aload_n 0, 1) := dk_o42 (by decide +kernel)
theorem dX6_readPair_32 : decode cX6_readPair 32 = .ok (.iload_n 1, 1) := dk_o27 (by decide +kernel)
theorem dX6_readPair_33 : decode cX6_readPair 33 = .ok (.iconst 1, 1) := dk_o4 (by decide +kernel)
theorem dX6_readPair_34 : decode cX6_readPair 34 = .ok (.iadd, 1) := dk_o96 (by decide +kernel)
theorem dX6_readPair_35 : decode cX6_readPair 35 = .ok (.invokevirtual 179, 3) := dk_o182 (by decide +kernel)
theorem dX6_readPair_38 : decode cX6_readPair 38 = .ok (.ifCond .eq 16, 3) := dk_o153 (by decide +kernel)
theorem dX6_readPair_41 : decode cX6_readPair 41 = .ok (.aload_n 0, 1) := dk_o42 (by decide +kernel)
theorem dX6_readPair_42 : decode cX6_readPair 42 = .ok (.bipush 41, 2) := dk_o16 (by decide +kernel)
theorem dX6_readPair_44 : decode cX6_readPair 44 = .ok (.invokevirtual 52, 3) := dk_o182 (by decide +kernel)
theorem dX6_readPair_47 : decode cX6_readPair 47 = .ok (.ifCond .eq 7, 3) := dk_o153 (by decide +kernel)
theorem dX6_readPair_50 : decode cX6_readPair 50 = .ok (.iconst 1, 1) := dk_o4 (by decide +kernel)
theorem dX6_readPair_51 : decode cX6_readPair 51 = .ok (.goto 4, 3) := dk_o167 (by decide +kernel)
theorem dX6_passOpening_12 : decode cX6_passOpening 12 = .ok (.aload_n 0, 1) := dk_o42 (by decide +kernel)
theorem dX6_passOpening_13 : decode cX6_passOpening 13 = .ok (.invokevirtual 92, 3) := dk_o182 (by decide +kernel)
theorem dX6_passOpening_16 : decode cX6_passOpening 16 = .ok (.iconst 1, 1) := dk_o4 (by decide +kernel)
theorem dX6_passOpening_17 : decode cX6_passOpening 17 = .ok (.ireturn, 1) := dk_o172 (by decide +kernel)
theorem wB_147 : Cond.code yX6_readTest cX6_readTest 4 (some .boolean) ∈ dgB := List.mem_filter.mpr ⟨tbl_4 _ (List.mem_of_getElem? (i := 46) rfl), rfl⟩
theorem wB_148 : Cond.methodLink RX6 176 yX6_readTest ∈ dgB := List.mem_filter.mpr ⟨tbl_4 _ (List.mem_of_getElem? (i := 43) (by decide +kernel)), by decide +kernel⟩
theorem wB_149 : Cond.instanceMethod yX6_readTest ∈ dgB := List.mem_filter.mpr ⟨tbl_4 _ (List.mem_of_getElem? (i := 45) (by decide +kernel)), by decide +kernel⟩
theorem wB_150 : Cond.selects RX6 yX6_readTest yX6_readTest ∈ dgB := List.mem_filter.mpr ⟨List.mem_of_getElem? (i := 24) (by decide +kernel), by decide +kernel⟩
theorem wB_151 : Cond.code yX6_takeSign cX6_takeSign 2 (some .boolean) ∈ dgB := List.mem_filter.mpr ⟨tbl_4 _ (List.mem_of_getElem? (i := 70) rfl), rfl⟩
theorem wB_152 : Cond.methodLink RX6 52 yX6_takeSign ∈ dgB := List.mem_filter.mpr ⟨tbl_4 _ (List.mem_of_getElem? (i := 67) (by decide +kernel)), by decide +kernel⟩
theorem wB_153 : Cond.instanceMethod yX6_takeSign ∈ dgB := List.mem_filter.mpr ⟨tbl_4 _ (List.mem_of_getElem? (i := 69) (by decide +kernel)), by decide +kernel⟩
theorem wB_154 : Cond.selects RX6 yX6_takeSign yX6_takeSign ∈ dgB := List.mem_filter.mpr ⟨List.mem_of_getElem? (i := 30) (by decide +kernel), by decide +kernel⟩
def lvT (dp : Int32) (jl : Nat) : Prop := ∀ (l : Launch) (g : Nat → ClassId) (D : va_G) (o : Nat) (S : dg_S) (en : Int32) (kd : Nat → Int32) (vl : Nat → Int32) (S0 : dg_S) (d0 : Nat) (gd : Nat) (hk_gd : rX gd) (f_gd : S.1 209 3 = .ref (o + gd)) (n0 : Int32) (f_n0 : S.1 209 4 = .int n0) (b_n0 : 0 ≤ (n0).toInt ∧ (n0).toInt ≤ 1600) (ru : Int32) (f_ru : S.1 209 6 = .int ru) (b_ru : 0 ≤ (ru).toInt ∧ (ru).toInt ≤ 2) (sc : Int32) (f_sc : S.1 209 7 = .int sc) (b_sc : 0 ≤ (sc).toInt ∧ (sc).toInt ≤ 1600) (ke : Int32) (f_ke : S.2.1 211 (en : Int32).toNatClampNeg = ke) (b_ke : 0 ≤ (ke).toInt ∧ (ke).toInt ≤ 0) (hne : (n0).toInt ≤ (en).toInt ∧ (en).toInt ≤ 1600 ∧ 0 ≤ (en).toInt) (hkd : ∀ k9 : Nat, k9 ≤ (en : Int32).toNatClampNeg → S.2.1 211 k9 = kd k9) (hvl : ∀ k9 : Nat, k9 ≤ (en : Int32).toNatClampNeg → S.2.1 213 k9 = vl k9) (hsc : (sc).toInt ≤ (n0).toInt) (hd0 : d0 ≠ gd) (G9 : G9X S0 d0 S) (I : CX o S) (sz : Nat), Met l yX6_readTest (bw yX6_readTest cX6_readTest 4 (some .boolean)) ({ frames := 8 * jl + 11, cells := 0, slots := 0, locals := 183 * jl + 257 } : Room) (dk_Pc g D (dg_w g shX o rfX S) sz [.ref (o + 209), .int dp]) (va_Qi (fun (r : Int32) S' => CX o S' ∧ dg_sm shX [(31, 0), (31, 1), (31, 4), (31, 7)] [28] S S' ∧ (0 ≤ (r).toInt ∧ (r).toInt ≤ 1) ∧ (m_hid ((r).toInt = 1 → q_as gd S S' sc ((d_lv kd vl (ru).toInt (jl + 1)).2.1 (n0 : Int32).toNatClampNeg))) ∧ (∃ y9_4 y9_7 : Int32, S'.1 209 4 = .int y9_4 ∧ S'.1 209 7 = .int y9_7 ∧ (((y9_4).toInt ≤ (en).toInt ∧ ((r).toInt = 1 → ((sc).toInt + 1 ≤ (y9_7).toInt ∧ (y9_7).toInt - (sc).toInt ≤ (y9_4).toInt - (n0).toInt))) ∧ g_ans r ((x_lv kd vl (ru).toInt (jl + 1)).2.1 (n0 : Int32).toNatClampNeg) (y9_4 : Int32).toNatClampNeg)) ∧ G9X S0 d0 S' ∧ True) (dg_B g D shX o rfX) (dg_A o shX.length sz)) 0 0 (dg_A o shX.length sz)
def lvS (dp : Int32) (jl : Nat) : Prop := ∀ (l : Launch) (g : Nat → ClassId) (D : va_G) (o : Nat) (S : dg_S) (en : Int32) (kd : Nat → Int32) (vl : Nat → Int32) (S0 : dg_S) (d0 : Nat) (gd : Nat) (hk_gd : rX gd) (f_gd : S.1 209 3 = .ref (o + gd)) (n0 : Int32) (f_n0 : S.1 209 4 = .int n0) (b_n0 : 0 ≤ (n0).toInt ∧ (n0).toInt ≤ 1600) (ru : Int32) (f_ru : S.1 209 6 = .int ru) (b_ru : 0 ≤ (ru).toInt ∧ (ru).toInt ≤ 2) (sc : Int32) (f_sc : S.1 209 7 = .int sc) (b_sc : 0 ≤ (sc).toInt ∧ (sc).toInt ≤ 1600) (ke : Int32) (f_ke : S.2.1 211 (en : Int32).toNatClampNeg = ke) (b_ke : 0 ≤ (ke).toInt ∧ (ke).toInt ≤ 0) (hne : (n0).toInt ≤ (en).toInt ∧ (en).toInt ≤ 1600 ∧ 0 ≤ (en).toInt) (hkd : ∀ k9 : Nat, k9 ≤ (en : Int32).toNatClampNeg → S.2.1 211 k9 = kd k9) (hvl : ∀ k9 : Nat, k9 ≤ (en : Int32).toNatClampNeg → S.2.1 213 k9 = vl k9) (hsc : (sc).toInt ≤ (n0).toInt) (hd0 : d0 ≠ gd) (G9 : G9X S0 d0 S) (I : CX o S) (sz : Nat), Met l yX6_readSum (bw yX6_readSum cX6_readSum 5 (some .boolean)) ({ frames := 8 * jl + 7, cells := 0, slots := 0, locals := 183 * jl + 165 } : Room) (dk_Pc g D (dg_w g shX o rfX S) sz [.ref (o + 209), .int dp]) (va_Qi (fun (r : Int32) S' => CX o S' ∧ dg_sm shX [(31, 0), (31, 1), (31, 4), (31, 7)] [28] S S' ∧ (0 ≤ (r).toInt ∧ (r).toInt ≤ 1) ∧ (m_hid ((r).toInt = 1 → q_as gd S S' sc ((d_lv kd vl (ru).toInt (jl + 1)).1 (n0 : Int32).toNatClampNeg))) ∧ (∃ y9_4 y9_7 : Int32, S'.1 209 4 = .int y9_4 ∧ S'.1 209 7 = .int y9_7 ∧ (((y9_4).toInt ≤ (en).toInt ∧ ((r).toInt = 1 → ((sc).toInt + 1 ≤ (y9_7).toInt ∧ (y9_7).toInt - (sc).toInt ≤ (y9_4).toInt - (n0).toInt))) ∧ g_ans r ((x_lv kd vl (ru).toInt (jl + 1)).1 (n0 : Int32).toNatClampNeg) (y9_4 : Int32).toNatClampNeg)) ∧ G9X S0 d0 S' ∧ True) (dg_B g D shX o rfX) (dg_A o shX.length sz)) 0 0 (dg_A o shX.length sz)
def lvF (dp : Int32) (jl : Nat) : Prop := ∀ (l : Launch) (g : Nat → ClassId) (D : va_G) (o : Nat) (S : dg_S) (en : Int32) (kd : Nat → Int32) (vl : Nat → Int32) (S0 : dg_S) (d0 : Nat) (gd : Nat) (hk_gd : rX gd) (f_gd : S.1 209 3 = .ref (o + gd)) (n0 : Int32) (f_n0 : S.1 209 4 = .int n0) (b_n0 : 0 ≤ (n0).toInt ∧ (n0).toInt ≤ 1600) (ru : Int32) (f_ru : S.1 209 6 = .int ru) (b_ru : 0 ≤ (ru).toInt ∧ (ru).toInt ≤ 2) (sc : Int32) (f_sc : S.1 209 7 = .int sc) (b_sc : 0 ≤ (sc).toInt ∧ (sc).toInt ≤ 1600) (ke : Int32) (f_ke : S.2.1 211 (en : Int32).toNatClampNeg = ke) (b_ke : 0 ≤ (ke).toInt ∧ (ke).toInt ≤ 0) (hne : (n0).toInt ≤ (en).toInt ∧ (en).toInt ≤ 1600 ∧ 0 ≤ (en).toInt) (hkd : ∀ k9 : Nat, k9 ≤ (en : Int32).toNatClampNeg → S.2.1 211 k9 = kd k9) (hvl : ∀ k9 : Nat, k9 ≤ (en : Int32).toNatClampNeg → S.2.1 213 k9 = vl k9) (hsc : (sc).toInt ≤ (n0).toInt) (hd0 : d0 ≠ gd) (G9 : G9X S0 d0 S) (I : CX o S) (sz : Nat), Met l yX6_readFact (bw yX6_readFact cX6_readFact 3 (some .boolean)) ({ frames := 8 * jl + 9, cells := 0, slots := 0, locals := 183 * jl + 212 } : Room) (dk_Pc g D (dg_w g shX o rfX S) sz [.ref (o + 209), .int dp]) (va_Qi (fun (r : Int32) S' => CX o S' ∧ dg_sm shX [(31, 0), (31, 1), (31, 4), (31, 7)] [28] S S' ∧ (0 ≤ (r).toInt ∧ (r).toInt ≤ 1) ∧ (m_hid ((r).toInt = 1 → q_as gd S S' sc ((d_lv kd vl (ru).toInt (jl + 1)).2.2 (n0 : Int32).toNatClampNeg))) ∧ (∃ y9_4 y9_7 : Int32, S'.1 209 4 = .int y9_4 ∧ S'.1 209 7 = .int y9_7 ∧ (((y9_4).toInt ≤ (en).toInt ∧ ((r).toInt = 1 → ((sc).toInt + 1 ≤ (y9_7).toInt ∧ (y9_7).toInt - (sc).toInt ≤ (y9_4).toInt - (n0).toInt))) ∧ g_ans r ((x_lv kd vl (ru).toInt (jl + 1)).2.2 (n0 : Int32).toNatClampNeg) (y9_4 : Int32).toNatClampNeg)) ∧ G9X S0 d0 S' ∧ True) (dg_B g D shX o rfX) (dg_A o shX.length sz)) 0 0 (dg_A o shX.length sz)
set_option maxHeartbeats 8000000 in
set_option maxRecDepth 100000 in
theorem cg_passOpening (jl : Nat) (dp dq : Int32) (hdp : dp < 7) (hdq : dp + 1 = dq) (hLT : lvT dq jl) (hLS : lvS dq jl) (hLF : lvF dq jl) (l : Launch) (g : Nat → ClassId) (D : va_G) (o : Nat) (S : dg_S) (en : Int32) (kd : Nat → Int32) (vl : Nat → Int32) (n0 : Int32) (f_n0 : S.1 209 4 = .int n0) (b_n0 : 0 ≤ (n0).toInt ∧ (n0).toInt ≤ 1600) (ke : Int32) (f_ke : S.2.1 211 (en : Int32).toNatClampNeg = ke) (b_ke : 0 ≤ (ke).toInt ∧ (ke).toInt ≤ 0) (hne : (n0).toInt ≤ (en).toInt ∧ (en).toInt ≤ 1600 ∧ 0 ≤ (en).toInt) (hkd : ∀ k9 : Nat, k9 ≤ (en : Int32).toNatClampNeg → S.2.1 211 k9 = kd k9) (hvl : ∀ k9 : Nat, k9 ≤ (en : Int32).toNatClampNeg → S.2.1 213 k9 = vl k9) (I : CX o S) (sz : Nat) : Met l yX6_passOpening (bw yX6_passOpening cX6_passOpening 2 (some .boolean)) ({ frames := 2, cells := 0, slots := 0, locals := 52 } : Room) (dk_Pc g D (dg_w g shX o rfX S) sz [.ref (o + 209), .int dp]) (va_Qi (fun (r : Int32) S' => CX o S' ∧ dg_sm shX [(31, 4)] [] S S' ∧ (1 ≤ (r).toInt ∧ (r).toInt ≤ 1) ∧ (∃ y9 : Int32, S'.1 209 4 = .int y9 ∧ ((y9).toInt ≤ (en).toInt ∧ ((kd (n0 : Int32).toNatClampNeg).toInt ≠ 0 → (y9 : Int32).toNatClampNeg = (n0 : Int32).toNatClampNeg + 1))) ∧ True) (dg_B g D shX o rfX) (dg_A o shX.length sz)) 0 0 (dg_A o shX.length sz) := by
  refine dg_met (cc := cX6_passOpening) (maxL := 2) (ret := (some .boolean)) (dk_dq rfl) rfl (Nat.le_of_ble_eq_true rfl) ?_
  intro p e s m args below meth c A hAe harg hx hb hr hml hts hown hlocks hin hP K hS hA1 hA ST hsz ls hl
  rw [← hAe]
  have F : CallFix p m c cX6_passOpening 2 s args (bw yX6_passOpening cX6_passOpening 2 (some .boolean)) RX6 := ⟨hx, hb, hml, hown, hts⟩
  have hl : lv_has ls 2 [(0, .ref (o + 209)), (1, .int dp)] := hl
  have M_0 : dg_sm shX [(31, 4)] [] S S := dg_sm.rf
  refine lv_iload_n hx hb dX6_passOpening_0 rfl (lv_at hl 1 rfl) ?_
  refine lv_bipush (v := 7) hx hb dX6_passOpening_1 (by decide +kernel) ?_
  refine lv_icmp_lt (tgt := 12) hx hb dX6_passOpening_3 (dk_dq rfl) (fun _ => ?_) (fun c => absurd hdp c)
  refine lv_aload_n hx hb dX6_passOpening_12 rfl (lv_at hl 0 rfl) ?_
  refine dg_callv hS hA1 hA (va_runV (As := []) (rest := []) F (c_rd_pass l g D o S en kd vl n0 f_n0 (by omega) ke f_ke (by omega) (by omega) hkd hvl I s.heap.size) (cwV 0 hts (bw_V wB_26 wB_27 wB_28 wB_24 wB_25) rfl rfl rfl (by decide +kernel) ⟨by dsimp only; omega, by dsimp only; omega⟩) (dg_preV sX_209 rfl K ST hP hS hA1 hA) rfl rfl hl.1 rfl (lv_room (Nat.le_of_ble_eq_true rfl)) dX6_passOpening_13 ⟨Nat.le_of_ble_eq_true rfl, Nat.le_of_ble_eq_true rfl⟩) (fun S_1 hw_1 H locs hP hS => ?_)
  obtain ⟨I_1, m_1, w_1_0, -⟩ := hw_1
  have M_1 := dg_sm.tr M_0 m_1 (dk_dq rfl) (dk_dq rfl)
  obtain ⟨y_2, f_y_2, w_1_0⟩ := w_1_0
  have w_1_0 : (y_2).toInt ≤ (en).toInt ∧ ((kd (n0 : Int32).toNatClampNeg).toInt ≠ 0 → (y_2 : Int32).toNatClampNeg = (n0 : Int32).toNatClampNeg + 1) := w_1_0
  have b_y_2 : 0 ≤ (y_2).toInt ∧ (y_2).toInt ≤ 1600 := dg_I.intb (lo := 0) (hi := 1600) I_1 sX_209 (by decide +kernel) f_y_2
  refine lv_iconst (v := 1) hx hb dX6_passOpening_16 (by decide +kernel) ?_
  have hz_3 : (1 : Int32).toInt = 1 := by decide +kernel
  have hz_4 : (1 : Int32).toInt = 1 := by decide +kernel
  refine W.widen (k := 0) (n := 0) (Nat.le_of_ble_eq_true rfl) (Nat.le_of_ble_eq_true rfl) ?_
  exact dg_iret hx hb hr hlocks (by decide +kernel) hP hS ⟨I_1, M_1, (by decide +kernel), ⟨y_2, f_y_2, ⟨by omega, fun q9 => by first | exact absurd q9 (by omega) | omega | (unfold Int32.toNatClampNeg; omega)⟩⟩, trivial⟩ dX6_passOpening_17
set_option maxHeartbeats 8000000 in
set_option maxRecDepth 100000 in
theorem cg_takeOpening (jl : Nat) (dp dq : Int32) (hdp : dp < 7) (hdq : dp + 1 = dq) (hLT : lvT dq jl) (hLS : lvS dq jl) (hLF : lvF dq jl) (l : Launch) (g : Nat → ClassId) (D : va_G) (o : Nat) (S : dg_S) (en : Int32) (kd : Nat → Int32) (vl : Nat → Int32) (n0 : Int32) (f_n0 : S.1 209 4 = .int n0) (b_n0 : 0 ≤ (n0).toInt ∧ (n0).toInt ≤ 1600) (ke : Int32) (f_ke : S.2.1 211 (en : Int32).toNatClampNeg = ke) (b_ke : 0 ≤ (ke).toInt ∧ (ke).toInt ≤ 0) (hne : (n0).toInt ≤ (en).toInt ∧ (en).toInt ≤ 1600 ∧ 0 ≤ (en).toInt) (hkd : ∀ k9 : Nat, k9 ≤ (en : Int32).toNatClampNeg → S.2.1 211 k9 = kd k9) (hvl : ∀ k9 : Nat, k9 ≤ (en : Int32).toNatClampNeg → S.2.1 213 k9 = vl k9) (I : CX o S) (sz : Nat) : Met l yX6_takeOpening (bw yX6_takeOpening cX6_takeOpening 2 (some .boolean)) ({ frames := 3, cells := 0, slots := 0, locals := 73 } : Room) (dk_Pc g D (dg_w g shX o rfX S) sz [.ref (o + 209), .int dp]) (va_Qi (fun (r : Int32) S' => CX o S' ∧ dg_sm shX [(31, 0), (31, 1), (31, 4)] [] S S' ∧ (0 ≤ (r).toInt ∧ (r).toInt ≤ 1) ∧ (∃ y9 : Int32, S'.1 209 4 = .int y9 ∧ ((y9).toInt ≤ (en).toInt ∧ g_ans r (g_tk kd vl 40 (n0 : Int32).toNatClampNeg) (y9 : Int32).toNatClampNeg)) ∧ True) (dg_B g D shX o rfX) (dg_A o shX.length sz)) 0 0 (dg_A o shX.length sz) := by
  refine dg_met (cc := cX6_takeOpening) (maxL := 2) (ret := (some .boolean)) (dk_dq rfl) rfl (Nat.le_of_ble_eq_true rfl) ?_
  intro p e s m args below meth c A hAe harg hx hb hr hml hts hown hlocks hin hP K hS hA1 hA ST hsz ls hl
  rw [← hAe]
  have F : CallFix p m c cX6_takeOpening 2 s args (bw yX6_takeOpening cX6_takeOpening 2 (some .boolean)) RX6 := ⟨hx, hb, hml, hown, hts⟩
  have hl : lv_has ls 2 [(0, .ref (o + 209)), (1, .int dp)] := hl
  have M_0 : dg_sm shX [(31, 0), (31, 1), (31, 4)] [] S S := dg_sm.rf
  refine lv_aload_n hx hb dX6_takeOpening_0 rfl (lv_at hl 0 rfl) ?_
  refine lv_bipush (v := 40) hx hb dX6_takeOpening_1 (by decide +kernel) ?_
  refine dg_calli hS hA1 hA (va_runV (As := [.int 40]) (rest := []) F (c_rd_isSign l g D o S 40 en kd vl n0 f_n0 (by omega) ke f_ke (by omega) (by omega) hkd hvl I s.heap.size) (cwV 1 hts (bw_V wB_34 wB_35 wB_36 wB_24 wB_33) rfl rfl rfl (by decide +kernel) ⟨by dsimp only; omega, by dsimp only; omega⟩) (dg_preV sX_209 rfl K ST hP hS hA1 hA) rfl rfl hl.1 rfl (lv_room (Nat.le_of_ble_eq_true rfl)) dX6_takeOpening_3 ⟨Nat.le_of_ble_eq_true rfl, Nat.le_of_ble_eq_true rfl⟩) (fun x_1 S_2 hw_2 H locs hP hS => ?_)
  rw [hw_2.1] at hP
  obtain ⟨hq_2, w_2_0, w_2_1, -⟩ := hw_2
  have hz_3 : (40 : Int32).toInt = 40 := by decide +kernel
  have w_2_0 : 0 ≤ (x_1).toInt ∧ (x_1).toInt ≤ 1 := w_2_0
  have w_2_1 : (x_1).toInt = 1 ↔ g_s kd vl ((40 : Int32)).toInt (n0 : Int32).toNatClampNeg = true := w_2_1
  refine lv_if_eq (tgt := 17) hx hb dX6_takeOpening_6 (dk_dq rfl) (fun c_4 => ?_) (fun c_4 => ?_)
  · have jc_4 := dk_eqc (k := 0) (by decide +kernel) c_4
    have qw_2_1 : g_s kd vl 40 (n0 : Int32).toNatClampNeg = false := by have h9 := g_iff_f w_2_1 (by omega); rw [show (40 : Int32).toInt = 40 from by decide +kernel] at h9; exact h9
    refine lv_aload_n hx hb dX6_takeOpening_17 rfl (lv_at hl 0 rfl) ?_
    refine lv_iconst (v := 1) hx hb dX6_takeOpening_18 (by decide +kernel) ?_
    refine dg_calli hS hA1 hA (va_runV (As := [.int 1]) (rest := []) F (c_rd_fail l g D o S 1 en n0 f_n0 (by omega) ke f_ke (by omega) (by omega) I H.size) (cwV 1 hts (bw_V wB_30 wB_31 wB_32 wB_24 wB_29) rfl rfl rfl (by decide +kernel) ⟨by dsimp only; omega, by dsimp only; omega⟩) (dg_preV sX_209 rfl K ST hP hS hA1 hA) rfl rfl hl.1 rfl (lv_room (Nat.le_of_ble_eq_true rfl)) dX6_takeOpening_19 ⟨Nat.le_of_ble_eq_true rfl, Nat.le_of_ble_eq_true rfl⟩) (fun x_5 S_6 hw_6 H locs hP hS => ?_)
    obtain ⟨I_6, m_6, w_6_0, -⟩ := hw_6
    have M_6 := dg_sm.tr M_0 m_6 (dk_dq rfl) (dk_dq rfl)
    have w_6_0 : 0 ≤ (x_5).toInt ∧ (x_5).toInt ≤ 0 := w_6_0
    refine W.widen (k := 0) (n := 0) (Nat.le_of_ble_eq_true rfl) (Nat.le_of_ble_eq_true rfl) ?_
    exact dg_iret hx hb hr hlocks (dk_znar2 (by omega)) hP hS ⟨I_6, M_6, (by omega), ⟨n0, ((m_6.1 209 4 _ sX_209 (dk_dq rfl)).trans f_n0), ⟨by omega, g_ans.n (by omega) (by simp [g_tk, qw_2_1])⟩⟩, trivial⟩ dX6_takeOpening_22
  · have jc_4 := dk_neqc (k := 0) (by decide +kernel) c_4
    have qw_2_1 : g_s kd vl 40 (n0 : Int32).toNatClampNeg = true := by have h9 := w_2_1.mp (by omega); rw [show (40 : Int32).toInt = 40 from by decide +kernel] at h9; exact h9
    refine lv_aload_n hx hb dX6_takeOpening_9 rfl (lv_at hl 0 rfl) ?_
    refine lv_iload_n hx hb dX6_takeOpening_10 rfl (lv_at hl 1 rfl) ?_
    refine dg_calli hS hA1 hA (va_runV (As := [.int dp]) (rest := []) F (cg_passOpening jl dp dq hdp hdq hLT hLS hLF l g D o S en kd vl n0 f_n0 (by omega) ke f_ke (by omega) (by omega) hkd hvl I H.size) (cwV 1 hts (bw_V wB_88 wB_89 wB_90 wB_24 wB_87) rfl rfl rfl (by decide +kernel) ⟨by dsimp only; omega, by dsimp only; omega⟩) (dg_preV sX_209 rfl K ST hP hS hA1 hA) rfl rfl hl.1 rfl (lv_room (Nat.le_of_ble_eq_true rfl)) dX6_takeOpening_11 ⟨Nat.le_of_ble_eq_true rfl, Nat.le_of_ble_eq_true rfl⟩) (fun x_7 S_8 hw_8 H locs hP hS => ?_)
    obtain ⟨I_8, m_8, w_8_0, w_8_1, -⟩ := hw_8
    have M_8 := dg_sm.tr M_0 m_8 (dk_dq rfl) (dk_dq rfl)
    have w_8_0 : 1 ≤ (x_7).toInt ∧ (x_7).toInt ≤ 1 := w_8_0
    obtain ⟨y_9, f_y_9, w_8_1⟩ := w_8_1
    have w_8_1 : (y_9).toInt ≤ (en).toInt ∧ ((kd (n0 : Int32).toNatClampNeg).toInt ≠ 0 → (y_9 : Int32).toNatClampNeg = (n0 : Int32).toNatClampNeg + 1) := w_8_1
    have b_y_9 : 0 ≤ (y_9).toInt ∧ (y_9).toInt ≤ 1600 := dg_I.intb (lo := 0) (hi := 1600) I_8 sX_209 (by decide +kernel) f_y_9
    have nq_y_9 : (y_9 : Int32).toNatClampNeg = (n0 : Int32).toNatClampNeg + 1 := by have h9 := w_8_1.2 (g_s_ne qw_2_1); omega
    refine lv_goto (tgt := 22) hx hb dX6_takeOpening_14 (dk_dq rfl) ?_
    refine W.widen (k := 0) (n := 0) (Nat.le_of_ble_eq_true rfl) (Nat.le_of_ble_eq_true rfl) ?_
    exact dg_iret hx hb hr hlocks (dk_znar2 (by omega)) hP hS ⟨I_8, M_8, (by omega), ⟨y_9, f_y_9, ⟨by omega, g_ans.y (by omega) (by simp [g_tk, qw_2_1, nq_y_9])⟩⟩, trivial⟩ dX6_takeOpening_22
set_option maxHeartbeats 8000000 in
set_option maxRecDepth 100000 in
theorem cg_readChoice (jl : Nat) (dp dq : Int32) (hdp : dp < 7) (hdq : dp + 1 = dq) (hLT : lvT dq jl) (hLS : lvS dq jl) (hLF : lvF dq jl) (l : Launch) (g : Nat → ClassId) (D : va_G) (o : Nat) (S : dg_S) (en : Int32) (kd : Nat → Int32) (vl : Nat → Int32) (S0 : dg_S) (d0 : Nat) (gd : Nat) (hk_gd : rX gd) (f_gd : S.1 209 3 = .ref (o + gd)) (n0 : Int32) (f_n0 : S.1 209 4 = .int n0) (b_n0 : 0 ≤ (n0).toInt ∧ (n0).toInt ≤ 1600) (ru : Int32) (f_ru : S.1 209 6 = .int ru) (b_ru : 0 ≤ (ru).toInt ∧ (ru).toInt ≤ 2) (sc : Int32) (f_sc : S.1 209 7 = .int sc) (b_sc : 0 ≤ (sc).toInt ∧ (sc).toInt ≤ 1600) (ke : Int32) (f_ke : S.2.1 211 (en : Int32).toNatClampNeg = ke) (b_ke : 0 ≤ (ke).toInt ∧ (ke).toInt ≤ 0) (hne : (n0).toInt ≤ (en).toInt ∧ (en).toInt ≤ 1600 ∧ 0 ≤ (en).toInt) (hkd : ∀ k9 : Nat, k9 ≤ (en : Int32).toNatClampNeg → S.2.1 211 k9 = kd k9) (hvl : ∀ k9 : Nat, k9 ≤ (en : Int32).toNatClampNeg → S.2.1 213 k9 = vl k9) (hsc : (sc).toInt ≤ (n0).toInt) (hkn : (kd (n0 : Int32).toNatClampNeg).toInt ≠ 0) (hd0 : d0 ≠ gd) (G9 : G9X S0 d0 S) (I : CX o S) (sz : Nat) : Met l yX6_readChoice (bw yX6_readChoice cX6_readChoice 3 (some .boolean)) ({ frames := 8 * jl + 12, cells := 0, slots := 0, locals := 183 * jl + 280 } : Room) (dk_Pc g D (dg_w g shX o rfX S) sz [.ref (o + 209), .int dp]) (va_Qi (fun (r : Int32) S' => CX o S' ∧ dg_sm shX [(31, 0), (31, 1), (31, 4), (31, 7)] [28] S S' ∧ (0 ≤ (r).toInt ∧ (r).toInt ≤ 1) ∧ (m_hid ((r).toInt = 1 → q_as gd S S' sc (d_choice (x_lv kd vl (ru).toInt (jl + 1)).1 (x_lv kd vl (ru).toInt (jl + 1)).2.1 (d_lv kd vl (ru).toInt (jl + 1)).1 (d_lv kd vl (ru).toInt (jl + 1)).2.1 (n0 : Int32).toNatClampNeg))) ∧ (∃ y9_4 y9_7 : Int32, S'.1 209 4 = .int y9_4 ∧ S'.1 209 7 = .int y9_7 ∧ (((y9_4).toInt ≤ (en).toInt ∧ ((r).toInt = 1 → ((sc).toInt + 1 ≤ (y9_7).toInt ∧ (y9_7).toInt - (sc).toInt ≤ (y9_4).toInt - (n0).toInt))) ∧ g_ans r (x_choice kd vl (x_lv kd vl (ru).toInt (jl + 1)).1 (x_lv kd vl (ru).toInt (jl + 1)).2.1 (n0 : Int32).toNatClampNeg) (y9_4 : Int32).toNatClampNeg)) ∧ G9X S0 d0 S' ∧ True) (dg_B g D shX o rfX) (dg_A o shX.length sz)) 0 0 (dg_A o shX.length sz) := by
  refine dg_met (cc := cX6_readChoice) (maxL := 3) (ret := (some .boolean)) (dk_dq rfl) rfl (Nat.le_of_ble_eq_true rfl) ?_
  intro p e s m args below meth c A hAe harg hx hb hr hml hts hown hlocks hin hP K hS hA1 hA ST hsz ls hl
  rw [← hAe]
  have F : CallFix p m c cX6_readChoice 3 s args (bw yX6_readChoice cX6_readChoice 3 (some .boolean)) RX6 := ⟨hx, hb, hml, hown, hts⟩
  have hl : lv_has ls 3 [(0, .ref (o + 209)), (1, .int dp)] := hl
  have M_0 : dg_sm shX [(31, 0), (31, 1), (31, 4), (31, 7)] [28] S S := dg_sm.rf
  refine lv_aload_n hx hb dX6_readChoice_0 rfl (lv_at hl 0 rfl) ?_
  refine dg_callv hS hA1 hA (va_runV (As := []) (rest := []) F (c_rd_pass l g D o S en kd vl n0 f_n0 (by omega) ke f_ke (by omega) (by omega) hkd hvl I s.heap.size) (cwV 0 hts (bw_V wB_26 wB_27 wB_28 wB_24 wB_25) rfl rfl rfl (by decide +kernel) ⟨by dsimp only; omega, by dsimp only; omega⟩) (dg_preV sX_209 rfl K ST hP hS hA1 hA) rfl rfl hl.1 rfl (lv_room (Nat.le_of_ble_eq_true rfl)) dX6_readChoice_1 ⟨Nat.le_of_ble_eq_true rfl, Nat.le_of_ble_eq_true rfl⟩) (fun S_1 hw_1 H locs hP hS => ?_)
  obtain ⟨I_1, m_1, w_1_0, -⟩ := hw_1
  have M_1 := dg_sm.tr M_0 m_1 (dk_dq rfl) (dk_dq rfl)
  obtain ⟨y_2, f_y_2, w_1_0⟩ := w_1_0
  have w_1_0 : (y_2).toInt ≤ (en).toInt ∧ ((kd (n0 : Int32).toNatClampNeg).toInt ≠ 0 → (y_2 : Int32).toNatClampNeg = (n0 : Int32).toNatClampNeg + 1) := w_1_0
  have b_y_2 : 0 ≤ (y_2).toInt ∧ (y_2).toInt ≤ 1600 := dg_I.intb (lo := 0) (hi := 1600) I_1 sX_209 (by decide +kernel) f_y_2
  have nq_y_2 : (y_2 : Int32).toNatClampNeg = (n0 : Int32).toNatClampNeg + 1 := by have h9 := w_1_0.2 hkn; omega
  have ni_y_2 : (y_2).toInt = (n0).toInt + 1 := by have h8 := dk_clN y_2; have h9 := dk_clN n0; omega
  refine lv_aload_n hx hb dX6_readChoice_4 rfl (lv_at hl 0 rfl) ?_
  refine lv_iload_n hx hb dX6_readChoice_5 rfl (lv_at hl 1 rfl) ?_
  refine dg_calli hS hA1 hA (va_runV (As := [.int dp]) (rest := []) F (cg_takeOpening jl dp dq hdp hdq hLT hLS hLF l g D o S_1 en kd vl y_2 f_y_2 (by omega) ke ((congrFun (m_1.2 211 _ sX_211 (dk_dq rfl)).1 _).trans f_ke) (by omega) (by omega) (fun k9 h9 => (congrFun (m_1.2 211 _ sX_211 (dk_dq rfl)).1 k9).trans (hkd k9 h9)) (fun k9 h9 => (congrFun (m_1.2 213 _ sX_213 (dk_dq rfl)).1 k9).trans (hvl k9 h9)) I_1 H.size) (cwV 1 hts (bw_V wB_92 wB_93 wB_94 wB_24 wB_91) rfl rfl rfl (by decide +kernel) ⟨by dsimp only; omega, by dsimp only; omega⟩) (dg_preV sX_209 rfl K ST hP hS hA1 hA) rfl rfl hl.1 rfl (lv_room (Nat.le_of_ble_eq_true rfl)) dX6_readChoice_6 ⟨Nat.le_of_ble_eq_true rfl, Nat.le_of_ble_eq_true rfl⟩) (fun x_3 S_4 hw_4 H locs hP hS => ?_)
  obtain ⟨I_4, m_4, w_4_0, w_4_1, -⟩ := hw_4
  have M_4 := dg_sm.tr M_1 m_4 (dk_dq rfl) (dk_dq rfl)
  have w_4_0 : 0 ≤ (x_3).toInt ∧ (x_3).toInt ≤ 1 := w_4_0
  obtain ⟨y_5, f_y_5, w_4_1⟩ := w_4_1
  have w_4_1 : (y_5).toInt ≤ (en).toInt ∧ g_ans x_3 (g_tk kd vl 40 (y_2 : Int32).toNatClampNeg) (y_5 : Int32).toNatClampNeg := w_4_1
  have b_y_5 : 0 ≤ (y_5).toInt ∧ (y_5).toInt ≤ 1600 := dg_I.intb (lo := 0) (hi := 1600) I_4 sX_209 (by decide +kernel) f_y_5
  refine lv_if_eq (tgt := 73) hx hb dX6_readChoice_9 (dk_dq rfl) (fun c_6 => ?_) (fun c_6 => ?_)
  · as_aux_lemma =>
      have jc_6 := dk_eqc (k := 0) (by decide +kernel) c_6
      have qw_4_1 : g_tk kd vl 40 ((n0 : Int32).toNatClampNeg + 1) = none := by have h9 := w_4_1.2.2 (by omega); rw [nq_y_2] at h9; exact h9
      have qw_4_1s := g_tk_none qw_4_1
      refine lv_iconst (v := 0) hx hb dX6_readChoice_73 (by decide +kernel) ?_
      refine lv_istore_n (lv' := [(2, .int 0), (0, .ref (o + 209)), (1, .int dp)]) hx hb dX6_readChoice_74 rfl hl (dk_dq rfl) rfl (fun ls hl => ?_)
      refine lv_aload_n hx hb dX6_readChoice_75 rfl (lv_at hl 1 rfl) ?_
      refine lv_bipush (v := (-9)) hx hb dX6_readChoice_76 (by decide +kernel) ?_
      refine dg_callv hS hA1 hA (va_runV (As := [.int (-9)]) (rest := []) F (c_rd_put l g D o S_4 (-9) en S0 d0 gd hk_gd (((m_4.1 209 3 _ sX_209 (dk_dq rfl)).trans (m_1.1 209 3 _ sX_209 (dk_dq rfl))).trans f_gd) y_5 f_y_5 (by omega) sc (((m_4.1 209 7 _ sX_209 (dk_dq rfl)).trans (m_1.1 209 7 _ sX_209 (dk_dq rfl))).trans f_sc) (by omega) ke ((congrFun ((m_4.2 211 _ sX_211 (dk_dq rfl)).1.trans (m_1.2 211 _ sX_211 (dk_dq rfl)).1) _).trans f_ke) (by omega) (by omega) hd0 (G9X.keep (G9X.keep G9 m_1 (dk_dq rfl)) m_4 (dk_dq rfl)) I_4 H.size) (cwV 1 hts (bw_V wB_96 wB_97 wB_98 wB_24 wB_95) rfl rfl rfl (by decide +kernel) ⟨by dsimp only; omega, by dsimp only; omega⟩) (dg_preV sX_209 rfl K ST hP hS hA1 hA) rfl rfl hl.1 rfl (lv_room (Nat.le_of_ble_eq_true rfl)) dX6_readChoice_78 ⟨Nat.le_of_ble_eq_true rfl, Nat.le_of_ble_eq_true rfl⟩) (fun S_7 hw_7 H locs hP hS => ?_)
      obtain ⟨I_7, m_7, w_7_0, w_7_1, w_7_2, -⟩ := hw_7
      have M_7 := dg_sm.tr M_4 m_7 (dk_dq rfl) (dk_dq rfl)
      have hz_8 : (-9 : Int32).toInt = (-9) := by decide +kernel
      replace w_7_0 : m_hid ((sc).toInt < 1600 → q_as gd S_4 S_7 sc [((-9 : Int32)).toInt]) := w_7_0
      obtain ⟨y_9, f_y_9, w_7_1⟩ := w_7_1
      have w_7_1 : (sc).toInt < 1600 → (y_9).toInt = (sc).toInt + 1 := w_7_1
      have b_y_9 : 0 ≤ (y_9).toInt ∧ (y_9).toInt ≤ 1600 := dg_I.intb (lo := 0) (hi := 1600) I_7 sX_209 (by decide +kernel) f_y_9
      refine lv_iload_n hx hb dX6_readChoice_81 rfl (lv_at hl 0 rfl) ?_
      have hz_10 : (0 : Int32).toInt = 0 := by decide +kernel
      have hz_11 : (0 : Int32).toInt = 0 := by decide +kernel
      have hz_12 : (0 : Int32).toInt = 0 := by decide +kernel
      have hz_13 : (0 : Int32).toInt = 0 := by decide +kernel
      refine W.widen (k := 0) (n := 0) (Nat.le_of_ble_eq_true rfl) (Nat.le_of_ble_eq_true rfl) ?_
      exact dg_iret hx hb hr hlocks (by decide +kernel) hP hS ⟨I_7, M_7, (by decide +kernel), (m_hid.mk (fun q9 => absurd q9 (by omega))), ⟨y_5, y_9, ((m_7.1 209 4 _ sX_209 (dk_dq rfl)).trans f_y_5), f_y_9, ⟨⟨by omega, by omega⟩, g_ans.n (by omega) (by simp [x_choice, x_pair, g_tk, nq_y_2, qw_4_1s])⟩⟩, w_7_2, trivial⟩ dX6_readChoice_82
  · as_aux_lemma =>
      have jc_6 := dk_neqc (k := 0) (by decide +kernel) c_6
      have qw_4_1 : g_tk kd vl 40 ((n0 : Int32).toNatClampNeg + 1) = some (y_5 : Int32).toNatClampNeg := by have h9 := w_4_1.2.1 (by omega); rw [nq_y_2] at h9; exact h9
      have qw_4_1s := (g_tk_some qw_4_1).1
      have nq_y_5 : (y_5 : Int32).toNatClampNeg = (n0 : Int32).toNatClampNeg + 2 := by have h9 := (g_tk_some qw_4_1).2; omega
      have ni_y_5 : (y_5).toInt = (n0).toInt + 2 := by have h8 := dk_clN y_5; have h9 := dk_clN n0; omega
      refine lv_aload_n hx hb dX6_readChoice_12 rfl (lv_at hl 0 rfl) ?_
      refine lv_iload_n hx hb dX6_readChoice_13 rfl (lv_at hl 1 rfl) ?_
      refine lv_iconst (v := 1) hx hb dX6_readChoice_14 (by decide +kernel) ?_
      refine lv_iadd hx hb dX6_readChoice_15 ?_
      refine dk_top (y := dq) hdq ?_
      refine dg_calli hS hA1 hA (va_runV (As := [.int dq]) (rest := []) F (hLT l g D o S_4 en kd vl S0 d0 gd hk_gd (((m_4.1 209 3 _ sX_209 (dk_dq rfl)).trans (m_1.1 209 3 _ sX_209 (dk_dq rfl))).trans f_gd) y_5 f_y_5 (by omega) ru (((m_4.1 209 6 _ sX_209 (dk_dq rfl)).trans (m_1.1 209 6 _ sX_209 (dk_dq rfl))).trans f_ru) (by omega) sc (((m_4.1 209 7 _ sX_209 (dk_dq rfl)).trans (m_1.1 209 7 _ sX_209 (dk_dq rfl))).trans f_sc) (by omega) ke ((congrFun ((m_4.2 211 _ sX_211 (dk_dq rfl)).1.trans (m_1.2 211 _ sX_211 (dk_dq rfl)).1) _).trans f_ke) (by omega) (by omega) (fun k9 h9 => (congrFun ((m_4.2 211 _ sX_211 (dk_dq rfl)).1.trans (m_1.2 211 _ sX_211 (dk_dq rfl)).1) k9).trans (hkd k9 h9)) (fun k9 h9 => (congrFun ((m_4.2 213 _ sX_213 (dk_dq rfl)).1.trans (m_1.2 213 _ sX_213 (dk_dq rfl)).1) k9).trans (hvl k9 h9)) (by omega) hd0 (G9X.keep (G9X.keep G9 m_1 (dk_dq rfl)) m_4 (dk_dq rfl)) I_4 H.size) (cwV 1 hts (bw_V wB_148 wB_149 wB_150 wB_24 wB_147) rfl rfl rfl (by decide +kernel) ⟨by dsimp only; omega, by dsimp only; omega⟩) (dg_preV sX_209 rfl K ST hP hS hA1 hA) rfl rfl hl.1 rfl (lv_room (Nat.le_of_ble_eq_true rfl)) dX6_readChoice_16 ⟨Nat.le_of_ble_eq_true rfl, Nat.le_of_ble_eq_true rfl⟩) (fun x_14 S_15 hw_15 H locs hP hS => ?_)
      obtain ⟨I_15, m_15, w_15_0, w_15_1, w_15_2, w_15_3, -⟩ := hw_15
      have M_15 := dg_sm.tr M_4 m_15 (dk_dq rfl) (dk_dq rfl)
      have w_15_0 : 0 ≤ (x_14).toInt ∧ (x_14).toInt ≤ 1 := w_15_0
      replace w_15_1 : m_hid ((x_14).toInt = 1 → q_as gd S_4 S_15 sc ((d_lv kd vl (ru).toInt (jl + 1)).2.1 (y_5 : Int32).toNatClampNeg)) := w_15_1
      have ap_15 : m_hid ((x_14).toInt = 1 → q_as gd S S_15 sc ((d_lv kd vl (ru).toInt (jl + 1)).2.1 ((n0 : Int32).toNatClampNeg + 2))) := m_hid.mk (fun q9 => (q_as.fst ((m_4.2 (gd + 9) _ (rX_9 gd hk_gd) (dk_dq rfl)).1.trans (m_1.2 (gd + 9) _ (rX_9 gd hk_gd) (dk_dq rfl)).1) (by have h9 := w_15_1.out q9; rw [nq_y_5] at h9; exact h9)))
      obtain ⟨y_16, y_17, f_y_16, f_y_17, w_15_2⟩ := w_15_2
      have w_15_2 : ((y_16).toInt ≤ (en).toInt ∧ ((x_14).toInt = 1 → ((sc).toInt + 1 ≤ (y_17).toInt ∧ (y_17).toInt - (sc).toInt ≤ (y_16).toInt - (y_5).toInt))) ∧ g_ans x_14 ((x_lv kd vl (ru).toInt (jl + 1)).2.1 (y_5 : Int32).toNatClampNeg) (y_16 : Int32).toNatClampNeg := w_15_2
      have b_y_16 : 0 ≤ (y_16).toInt ∧ (y_16).toInt ≤ 1600 := dg_I.intb (lo := 0) (hi := 1600) I_15 sX_209 (by decide +kernel) f_y_16
      have b_y_17 : 0 ≤ (y_17).toInt ∧ (y_17).toInt ≤ 1600 := dg_I.intb (lo := 0) (hi := 1600) I_15 sX_209 (by decide +kernel) f_y_17
      refine lv_if_eq (tgt := 73) hx hb dX6_readChoice_19 (dk_dq rfl) (fun c_18 => ?_) (fun c_18 => ?_)
      · as_aux_lemma =>
          have jc_18 := dk_eqc (k := 0) (by decide +kernel) c_18
          have qw_15_2 : (x_lv kd vl (ru).toInt (jl + 1)).2.1 ((n0 : Int32).toNatClampNeg + 2) = none := by have h9 := w_15_2.2.2 (by omega); rw [nq_y_5] at h9; exact h9
          refine lv_iconst (v := 0) hx hb dX6_readChoice_73 (by decide +kernel) ?_
          refine lv_istore_n (lv' := [(2, .int 0), (0, .ref (o + 209)), (1, .int dp)]) hx hb dX6_readChoice_74 rfl hl (dk_dq rfl) rfl (fun ls hl => ?_)
          refine lv_aload_n hx hb dX6_readChoice_75 rfl (lv_at hl 1 rfl) ?_
          refine lv_bipush (v := (-9)) hx hb dX6_readChoice_76 (by decide +kernel) ?_
          refine dg_callv hS hA1 hA (va_runV (As := [.int (-9)]) (rest := []) F (c_rd_put l g D o S_15 (-9) en S0 d0 gd hk_gd (((m_15.1 209 3 _ sX_209 (dk_dq rfl)).trans ((m_4.1 209 3 _ sX_209 (dk_dq rfl)).trans (m_1.1 209 3 _ sX_209 (dk_dq rfl)))).trans f_gd) y_16 f_y_16 (by omega) y_17 f_y_17 (by omega) ke ((congrFun ((m_15.2 211 _ sX_211 (dk_dq rfl)).1.trans ((m_4.2 211 _ sX_211 (dk_dq rfl)).1.trans (m_1.2 211 _ sX_211 (dk_dq rfl)).1)) _).trans f_ke) (by omega) (by omega) hd0 w_15_3 I_15 H.size) (cwV 1 hts (bw_V wB_96 wB_97 wB_98 wB_24 wB_95) rfl rfl rfl (by decide +kernel) ⟨by dsimp only; omega, by dsimp only; omega⟩) (dg_preV sX_209 rfl K ST hP hS hA1 hA) rfl rfl hl.1 rfl (lv_room (Nat.le_of_ble_eq_true rfl)) dX6_readChoice_78 ⟨Nat.le_of_ble_eq_true rfl, Nat.le_of_ble_eq_true rfl⟩) (fun S_19 hw_19 H locs hP hS => ?_)
          obtain ⟨I_19, m_19, w_19_0, w_19_1, w_19_2, -⟩ := hw_19
          have M_19 := dg_sm.tr M_15 m_19 (dk_dq rfl) (dk_dq rfl)
          have hz_20 : (-9 : Int32).toInt = (-9) := by decide +kernel
          replace w_19_0 : m_hid ((y_17).toInt < 1600 → q_as gd S_15 S_19 y_17 [((-9 : Int32)).toInt]) := w_19_0
          obtain ⟨y_21, f_y_21, w_19_1⟩ := w_19_1
          have w_19_1 : (y_17).toInt < 1600 → (y_21).toInt = (y_17).toInt + 1 := w_19_1
          have b_y_21 : 0 ≤ (y_21).toInt ∧ (y_21).toInt ≤ 1600 := dg_I.intb (lo := 0) (hi := 1600) I_19 sX_209 (by decide +kernel) f_y_21
          refine lv_iload_n hx hb dX6_readChoice_81 rfl (lv_at hl 0 rfl) ?_
          have hz_22 : (0 : Int32).toInt = 0 := by decide +kernel
          have hz_23 : (0 : Int32).toInt = 0 := by decide +kernel
          have hz_24 : (0 : Int32).toInt = 0 := by decide +kernel
          have hz_25 : (0 : Int32).toInt = 0 := by decide +kernel
          refine W.widen (k := 0) (n := 0) (Nat.le_of_ble_eq_true rfl) (Nat.le_of_ble_eq_true rfl) ?_
          exact dg_iret hx hb hr hlocks (by decide +kernel) hP hS ⟨I_19, M_19, (by decide +kernel), (m_hid.mk (fun q9 => absurd q9 (by omega))), ⟨y_16, y_21, ((m_19.1 209 4 _ sX_209 (dk_dq rfl)).trans f_y_16), f_y_21, ⟨⟨by omega, by omega⟩, g_ans.n (by omega) (by simp [x_choice, x_pair, g_tk, nq_y_2, qw_4_1s, nq_y_5, qw_15_2])⟩⟩, w_19_2, trivial⟩ dX6_readChoice_82
      · as_aux_lemma =>
          have jc_18 := dk_neqc (k := 0) (by decide +kernel) c_18
          have qw_15_2 : (x_lv kd vl (ru).toInt (jl + 1)).2.1 ((n0 : Int32).toNatClampNeg + 2) = some (y_16 : Int32).toNatClampNeg := by have h9 := w_15_2.2.1 (by omega); rw [nq_y_5] at h9; exact h9
          refine lv_aload_n hx hb dX6_readChoice_22 rfl (lv_at hl 0 rfl) ?_
          refine lv_bipush (v := 44) hx hb dX6_readChoice_23 (by decide +kernel) ?_
          refine dg_calli hS hA1 hA (va_runV (As := [.int 44]) (rest := []) F (c_rd_takeSign l g D o S_15 44 en kd vl y_16 f_y_16 (by omega) ke ((congrFun ((m_15.2 211 _ sX_211 (dk_dq rfl)).1.trans ((m_4.2 211 _ sX_211 (dk_dq rfl)).1.trans (m_1.2 211 _ sX_211 (dk_dq rfl)).1)) _).trans f_ke) (by omega) (by omega) (fun k9 h9 => (congrFun ((m_15.2 211 _ sX_211 (dk_dq rfl)).1.trans ((m_4.2 211 _ sX_211 (dk_dq rfl)).1.trans (m_1.2 211 _ sX_211 (dk_dq rfl)).1)) k9).trans (hkd k9 h9)) (fun k9 h9 => (congrFun ((m_15.2 213 _ sX_213 (dk_dq rfl)).1.trans ((m_4.2 213 _ sX_213 (dk_dq rfl)).1.trans (m_1.2 213 _ sX_213 (dk_dq rfl)).1)) k9).trans (hvl k9 h9)) I_15 H.size) (cwV 1 hts (bw_V wB_152 wB_153 wB_154 wB_24 wB_151) rfl rfl rfl (by decide +kernel) ⟨by dsimp only; omega, by dsimp only; omega⟩) (dg_preV sX_209 rfl K ST hP hS hA1 hA) rfl rfl hl.1 rfl (lv_room (Nat.le_of_ble_eq_true rfl)) dX6_readChoice_25 ⟨Nat.le_of_ble_eq_true rfl, Nat.le_of_ble_eq_true rfl⟩) (fun x_26 S_27 hw_27 H locs hP hS => ?_)
          obtain ⟨I_27, m_27, w_27_0, w_27_1, -⟩ := hw_27
          have M_27 := dg_sm.tr M_15 m_27 (dk_dq rfl) (dk_dq rfl)
          have hz_28 : (44 : Int32).toInt = 44 := by decide +kernel
          have w_27_0 : 0 ≤ (x_26).toInt ∧ (x_26).toInt ≤ 1 := w_27_0
          obtain ⟨y_29, f_y_29, w_27_1⟩ := w_27_1
          have w_27_1 : (y_29).toInt ≤ (en).toInt ∧ g_ans x_26 (g_tk kd vl ((44 : Int32)).toInt (y_16 : Int32).toNatClampNeg) (y_29 : Int32).toNatClampNeg := w_27_1
          have b_y_29 : 0 ≤ (y_29).toInt ∧ (y_29).toInt ≤ 1600 := dg_I.intb (lo := 0) (hi := 1600) I_27 sX_209 (by decide +kernel) f_y_29
          refine lv_if_eq (tgt := 73) hx hb dX6_readChoice_28 (dk_dq rfl) (fun c_30 => ?_) (fun c_30 => ?_)
          · as_aux_lemma =>
              have jc_30 := dk_eqc (k := 0) (by decide +kernel) c_30
              have qw_27_1 : g_tk kd vl 44 (y_16 : Int32).toNatClampNeg = none := by have h9 := w_27_1.2.2 (by omega); rw [show (44 : Int32).toInt = 44 from by decide +kernel] at h9; exact h9
              have qw_27_1s := g_tk_none qw_27_1
              refine lv_iconst (v := 0) hx hb dX6_readChoice_73 (by decide +kernel) ?_
              refine lv_istore_n (lv' := [(2, .int 0), (0, .ref (o + 209)), (1, .int dp)]) hx hb dX6_readChoice_74 rfl hl (dk_dq rfl) rfl (fun ls hl => ?_)
              refine lv_aload_n hx hb dX6_readChoice_75 rfl (lv_at hl 1 rfl) ?_
              refine lv_bipush (v := (-9)) hx hb dX6_readChoice_76 (by decide +kernel) ?_
              refine dg_callv hS hA1 hA (va_runV (As := [.int (-9)]) (rest := []) F (c_rd_put l g D o S_27 (-9) en S0 d0 gd hk_gd (((m_27.1 209 3 _ sX_209 (dk_dq rfl)).trans ((m_15.1 209 3 _ sX_209 (dk_dq rfl)).trans ((m_4.1 209 3 _ sX_209 (dk_dq rfl)).trans (m_1.1 209 3 _ sX_209 (dk_dq rfl))))).trans f_gd) y_29 f_y_29 (by omega) y_17 ((m_27.1 209 7 _ sX_209 (dk_dq rfl)).trans f_y_17) (by omega) ke ((congrFun ((m_27.2 211 _ sX_211 (dk_dq rfl)).1.trans ((m_15.2 211 _ sX_211 (dk_dq rfl)).1.trans ((m_4.2 211 _ sX_211 (dk_dq rfl)).1.trans (m_1.2 211 _ sX_211 (dk_dq rfl)).1))) _).trans f_ke) (by omega) (by omega) hd0 (G9X.keep w_15_3 m_27 (dk_dq rfl)) I_27 H.size) (cwV 1 hts (bw_V wB_96 wB_97 wB_98 wB_24 wB_95) rfl rfl rfl (by decide +kernel) ⟨by dsimp only; omega, by dsimp only; omega⟩) (dg_preV sX_209 rfl K ST hP hS hA1 hA) rfl rfl hl.1 rfl (lv_room (Nat.le_of_ble_eq_true rfl)) dX6_readChoice_78 ⟨Nat.le_of_ble_eq_true rfl, Nat.le_of_ble_eq_true rfl⟩) (fun S_31 hw_31 H locs hP hS => ?_)
              obtain ⟨I_31, m_31, w_31_0, w_31_1, w_31_2, -⟩ := hw_31
              have M_31 := dg_sm.tr M_27 m_31 (dk_dq rfl) (dk_dq rfl)
              have hz_32 : (-9 : Int32).toInt = (-9) := by decide +kernel
              replace w_31_0 : m_hid ((y_17).toInt < 1600 → q_as gd S_27 S_31 y_17 [((-9 : Int32)).toInt]) := w_31_0
              obtain ⟨y_33, f_y_33, w_31_1⟩ := w_31_1
              have w_31_1 : (y_17).toInt < 1600 → (y_33).toInt = (y_17).toInt + 1 := w_31_1
              have b_y_33 : 0 ≤ (y_33).toInt ∧ (y_33).toInt ≤ 1600 := dg_I.intb (lo := 0) (hi := 1600) I_31 sX_209 (by decide +kernel) f_y_33
              refine lv_iload_n hx hb dX6_readChoice_81 rfl (lv_at hl 0 rfl) ?_
              have hz_34 : (0 : Int32).toInt = 0 := by decide +kernel
              have hz_35 : (0 : Int32).toInt = 0 := by decide +kernel
              have hz_36 : (0 : Int32).toInt = 0 := by decide +kernel
              have hz_37 : (0 : Int32).toInt = 0 := by decide +kernel
              refine W.widen (k := 0) (n := 0) (Nat.le_of_ble_eq_true rfl) (Nat.le_of_ble_eq_true rfl) ?_
              exact dg_iret hx hb hr hlocks (by decide +kernel) hP hS ⟨I_31, M_31, (by decide +kernel), (m_hid.mk (fun q9 => absurd q9 (by omega))), ⟨y_29, y_33, ((m_31.1 209 4 _ sX_209 (dk_dq rfl)).trans f_y_29), f_y_33, ⟨⟨by omega, by omega⟩, g_ans.n (by omega) (by simp [x_choice, x_pair, g_tk, nq_y_2, qw_4_1s, nq_y_5, qw_15_2, qw_27_1s])⟩⟩, w_31_2, trivial⟩ dX6_readChoice_82
          · as_aux_lemma =>
              have jc_30 := dk_neqc (k := 0) (by decide +kernel) c_30
              have qw_27_1 : g_tk kd vl 44 (y_16 : Int32).toNatClampNeg = some (y_29 : Int32).toNatClampNeg := by have h9 := w_27_1.2.1 (by omega); rw [show (44 : Int32).toInt = 44 from by decide +kernel] at h9; exact h9
              have qw_27_1s := (g_tk_some qw_27_1).1
              have nq_y_29 : (y_29 : Int32).toNatClampNeg = (y_16 : Int32).toNatClampNeg + 1 := by have h9 := (g_tk_some qw_27_1).2; omega
              have ni_y_29 : (y_29).toInt = (y_16).toInt + 1 := by have h8 := dk_clN y_29; have h9 := dk_clN y_16; omega
              refine lv_aload_n hx hb dX6_readChoice_31 rfl (lv_at hl 0 rfl) ?_
              refine lv_iload_n hx hb dX6_readChoice_32 rfl (lv_at hl 1 rfl) ?_
              refine lv_iconst (v := 1) hx hb dX6_readChoice_33 (by decide +kernel) ?_
              refine lv_iadd hx hb dX6_readChoice_34 ?_
              refine dk_top (y := dq) hdq ?_
              refine dg_calli hS hA1 hA (va_runV (As := [.int dq]) (rest := []) F (hLS l g D o S_27 en kd vl S0 d0 gd hk_gd (((m_27.1 209 3 _ sX_209 (dk_dq rfl)).trans ((m_15.1 209 3 _ sX_209 (dk_dq rfl)).trans ((m_4.1 209 3 _ sX_209 (dk_dq rfl)).trans (m_1.1 209 3 _ sX_209 (dk_dq rfl))))).trans f_gd) y_29 f_y_29 (by omega) ru (((m_27.1 209 6 _ sX_209 (dk_dq rfl)).trans ((m_15.1 209 6 _ sX_209 (dk_dq rfl)).trans ((m_4.1 209 6 _ sX_209 (dk_dq rfl)).trans (m_1.1 209 6 _ sX_209 (dk_dq rfl))))).trans f_ru) (by omega) y_17 ((m_27.1 209 7 _ sX_209 (dk_dq rfl)).trans f_y_17) (by omega) ke ((congrFun ((m_27.2 211 _ sX_211 (dk_dq rfl)).1.trans ((m_15.2 211 _ sX_211 (dk_dq rfl)).1.trans ((m_4.2 211 _ sX_211 (dk_dq rfl)).1.trans (m_1.2 211 _ sX_211 (dk_dq rfl)).1))) _).trans f_ke) (by omega) (by omega) (fun k9 h9 => (congrFun ((m_27.2 211 _ sX_211 (dk_dq rfl)).1.trans ((m_15.2 211 _ sX_211 (dk_dq rfl)).1.trans ((m_4.2 211 _ sX_211 (dk_dq rfl)).1.trans (m_1.2 211 _ sX_211 (dk_dq rfl)).1))) k9).trans (hkd k9 h9)) (fun k9 h9 => (congrFun ((m_27.2 213 _ sX_213 (dk_dq rfl)).1.trans ((m_15.2 213 _ sX_213 (dk_dq rfl)).1.trans ((m_4.2 213 _ sX_213 (dk_dq rfl)).1.trans (m_1.2 213 _ sX_213 (dk_dq rfl)).1))) k9).trans (hvl k9 h9)) (by omega) hd0 (G9X.keep w_15_3 m_27 (dk_dq rfl)) I_27 H.size) (cwV 1 hts (bw_V wB_128 wB_129 wB_130 wB_24 wB_127) rfl rfl rfl (by decide +kernel) ⟨by dsimp only; omega, by dsimp only; omega⟩) (dg_preV sX_209 rfl K ST hP hS hA1 hA) rfl rfl hl.1 rfl (lv_room (Nat.le_of_ble_eq_true rfl)) dX6_readChoice_35 ⟨Nat.le_of_ble_eq_true rfl, Nat.le_of_ble_eq_true rfl⟩) (fun x_38 S_39 hw_39 H locs hP hS => ?_)
              obtain ⟨I_39, m_39, w_39_0, w_39_1, w_39_2, w_39_3, -⟩ := hw_39
              have M_39 := dg_sm.tr M_27 m_39 (dk_dq rfl) (dk_dq rfl)
              have w_39_0 : 0 ≤ (x_38).toInt ∧ (x_38).toInt ≤ 1 := w_39_0
              replace w_39_1 : m_hid ((x_38).toInt = 1 → q_as gd S_27 S_39 y_17 ((d_lv kd vl (ru).toInt (jl + 1)).1 (y_29 : Int32).toNatClampNeg)) := w_39_1
              have ap_39 : m_hid ((x_38).toInt = 1 → q_as gd S S_39 sc ((d_lv kd vl (ru).toInt (jl + 1)).2.1 ((n0 : Int32).toNatClampNeg + 2) ++ ((d_lv kd vl (ru).toInt (jl + 1)).1 ((y_16 : Int32).toNatClampNeg + 1)))) := m_hid.mk (fun q9 => (q_as.tr (ap_15.out (by omega)) (m_27.1 209 7 _ sX_209 (dk_dq rfl)) (m_27.2 (gd + 9) _ (rX_9 gd hk_gd) (dk_dq rfl)).1 ((m_27.1 209 7 _ sX_209 (dk_dq rfl)).trans f_y_17) (by have h9 := w_39_1.out q9; rw [nq_y_29] at h9; exact h9)))
              obtain ⟨y_40, y_41, f_y_40, f_y_41, w_39_2⟩ := w_39_2
              have w_39_2 : ((y_40).toInt ≤ (en).toInt ∧ ((x_38).toInt = 1 → ((y_17).toInt + 1 ≤ (y_41).toInt ∧ (y_41).toInt - (y_17).toInt ≤ (y_40).toInt - (y_29).toInt))) ∧ g_ans x_38 ((x_lv kd vl (ru).toInt (jl + 1)).1 (y_29 : Int32).toNatClampNeg) (y_40 : Int32).toNatClampNeg := w_39_2
              have b_y_40 : 0 ≤ (y_40).toInt ∧ (y_40).toInt ≤ 1600 := dg_I.intb (lo := 0) (hi := 1600) I_39 sX_209 (by decide +kernel) f_y_40
              have b_y_41 : 0 ≤ (y_41).toInt ∧ (y_41).toInt ≤ 1600 := dg_I.intb (lo := 0) (hi := 1600) I_39 sX_209 (by decide +kernel) f_y_41
              refine lv_if_eq (tgt := 73) hx hb dX6_readChoice_38 (dk_dq rfl) (fun c_42 => ?_) (fun c_42 => ?_)
              · as_aux_lemma =>
                  have jc_42 := dk_eqc (k := 0) (by decide +kernel) c_42
                  have qw_39_2 : (x_lv kd vl (ru).toInt (jl + 1)).1 ((y_16 : Int32).toNatClampNeg + 1) = none := by have h9 := w_39_2.2.2 (by omega); rw [nq_y_29] at h9; exact h9
                  refine lv_iconst (v := 0) hx hb dX6_readChoice_73 (by decide +kernel) ?_
                  refine lv_istore_n (lv' := [(2, .int 0), (0, .ref (o + 209)), (1, .int dp)]) hx hb dX6_readChoice_74 rfl hl (dk_dq rfl) rfl (fun ls hl => ?_)
                  refine lv_aload_n hx hb dX6_readChoice_75 rfl (lv_at hl 1 rfl) ?_
                  refine lv_bipush (v := (-9)) hx hb dX6_readChoice_76 (by decide +kernel) ?_
                  refine dg_callv hS hA1 hA (va_runV (As := [.int (-9)]) (rest := []) F (c_rd_put l g D o S_39 (-9) en S0 d0 gd hk_gd (((m_39.1 209 3 _ sX_209 (dk_dq rfl)).trans ((m_27.1 209 3 _ sX_209 (dk_dq rfl)).trans ((m_15.1 209 3 _ sX_209 (dk_dq rfl)).trans ((m_4.1 209 3 _ sX_209 (dk_dq rfl)).trans (m_1.1 209 3 _ sX_209 (dk_dq rfl)))))).trans f_gd) y_40 f_y_40 (by omega) y_41 f_y_41 (by omega) ke ((congrFun ((m_39.2 211 _ sX_211 (dk_dq rfl)).1.trans ((m_27.2 211 _ sX_211 (dk_dq rfl)).1.trans ((m_15.2 211 _ sX_211 (dk_dq rfl)).1.trans ((m_4.2 211 _ sX_211 (dk_dq rfl)).1.trans (m_1.2 211 _ sX_211 (dk_dq rfl)).1)))) _).trans f_ke) (by omega) (by omega) hd0 w_39_3 I_39 H.size) (cwV 1 hts (bw_V wB_96 wB_97 wB_98 wB_24 wB_95) rfl rfl rfl (by decide +kernel) ⟨by dsimp only; omega, by dsimp only; omega⟩) (dg_preV sX_209 rfl K ST hP hS hA1 hA) rfl rfl hl.1 rfl (lv_room (Nat.le_of_ble_eq_true rfl)) dX6_readChoice_78 ⟨Nat.le_of_ble_eq_true rfl, Nat.le_of_ble_eq_true rfl⟩) (fun S_43 hw_43 H locs hP hS => ?_)
                  obtain ⟨I_43, m_43, w_43_0, w_43_1, w_43_2, -⟩ := hw_43
                  have M_43 := dg_sm.tr M_39 m_43 (dk_dq rfl) (dk_dq rfl)
                  have hz_44 : (-9 : Int32).toInt = (-9) := by decide +kernel
                  replace w_43_0 : m_hid ((y_41).toInt < 1600 → q_as gd S_39 S_43 y_41 [((-9 : Int32)).toInt]) := w_43_0
                  obtain ⟨y_45, f_y_45, w_43_1⟩ := w_43_1
                  have w_43_1 : (y_41).toInt < 1600 → (y_45).toInt = (y_41).toInt + 1 := w_43_1
                  have b_y_45 : 0 ≤ (y_45).toInt ∧ (y_45).toInt ≤ 1600 := dg_I.intb (lo := 0) (hi := 1600) I_43 sX_209 (by decide +kernel) f_y_45
                  refine lv_iload_n hx hb dX6_readChoice_81 rfl (lv_at hl 0 rfl) ?_
                  have hz_46 : (0 : Int32).toInt = 0 := by decide +kernel
                  have hz_47 : (0 : Int32).toInt = 0 := by decide +kernel
                  have hz_48 : (0 : Int32).toInt = 0 := by decide +kernel
                  have hz_49 : (0 : Int32).toInt = 0 := by decide +kernel
                  refine W.widen (k := 0) (n := 0) (Nat.le_of_ble_eq_true rfl) (Nat.le_of_ble_eq_true rfl) ?_
                  exact dg_iret hx hb hr hlocks (by decide +kernel) hP hS ⟨I_43, M_43, (by decide +kernel), (m_hid.mk (fun q9 => absurd q9 (by omega))), ⟨y_40, y_45, ((m_43.1 209 4 _ sX_209 (dk_dq rfl)).trans f_y_40), f_y_45, ⟨⟨by omega, by omega⟩, g_ans.n (by omega) (by simp [x_choice, x_pair, g_tk, nq_y_2, qw_4_1s, nq_y_5, qw_15_2, qw_27_1s, nq_y_29, qw_39_2])⟩⟩, w_43_2, trivial⟩ dX6_readChoice_82
              · as_aux_lemma =>
                  have jc_42 := dk_neqc (k := 0) (by decide +kernel) c_42
                  have qw_39_2 : (x_lv kd vl (ru).toInt (jl + 1)).1 ((y_16 : Int32).toNatClampNeg + 1) = some (y_40 : Int32).toNatClampNeg := by have h9 := w_39_2.2.1 (by omega); rw [nq_y_29] at h9; exact h9
                  refine lv_aload_n hx hb dX6_readChoice_41 rfl (lv_at hl 0 rfl) ?_
                  refine lv_bipush (v := 44) hx hb dX6_readChoice_42 (by decide +kernel) ?_
                  refine dg_calli hS hA1 hA (va_runV (As := [.int 44]) (rest := []) F (c_rd_takeSign l g D o S_39 44 en kd vl y_40 f_y_40 (by omega) ke ((congrFun ((m_39.2 211 _ sX_211 (dk_dq rfl)).1.trans ((m_27.2 211 _ sX_211 (dk_dq rfl)).1.trans ((m_15.2 211 _ sX_211 (dk_dq rfl)).1.trans ((m_4.2 211 _ sX_211 (dk_dq rfl)).1.trans (m_1.2 211 _ sX_211 (dk_dq rfl)).1)))) _).trans f_ke) (by omega) (by omega) (fun k9 h9 => (congrFun ((m_39.2 211 _ sX_211 (dk_dq rfl)).1.trans ((m_27.2 211 _ sX_211 (dk_dq rfl)).1.trans ((m_15.2 211 _ sX_211 (dk_dq rfl)).1.trans ((m_4.2 211 _ sX_211 (dk_dq rfl)).1.trans (m_1.2 211 _ sX_211 (dk_dq rfl)).1)))) k9).trans (hkd k9 h9)) (fun k9 h9 => (congrFun ((m_39.2 213 _ sX_213 (dk_dq rfl)).1.trans ((m_27.2 213 _ sX_213 (dk_dq rfl)).1.trans ((m_15.2 213 _ sX_213 (dk_dq rfl)).1.trans ((m_4.2 213 _ sX_213 (dk_dq rfl)).1.trans (m_1.2 213 _ sX_213 (dk_dq rfl)).1)))) k9).trans (hvl k9 h9)) I_39 H.size) (cwV 1 hts (bw_V wB_152 wB_153 wB_154 wB_24 wB_151) rfl rfl rfl (by decide +kernel) ⟨by dsimp only; omega, by dsimp only; omega⟩) (dg_preV sX_209 rfl K ST hP hS hA1 hA) rfl rfl hl.1 rfl (lv_room (Nat.le_of_ble_eq_true rfl)) dX6_readChoice_44 ⟨Nat.le_of_ble_eq_true rfl, Nat.le_of_ble_eq_true rfl⟩) (fun x_50 S_51 hw_51 H locs hP hS => ?_)
                  obtain ⟨I_51, m_51, w_51_0, w_51_1, -⟩ := hw_51
                  have M_51 := dg_sm.tr M_39 m_51 (dk_dq rfl) (dk_dq rfl)
                  have hz_52 : (44 : Int32).toInt = 44 := by decide +kernel
                  have w_51_0 : 0 ≤ (x_50).toInt ∧ (x_50).toInt ≤ 1 := w_51_0
                  obtain ⟨y_53, f_y_53, w_51_1⟩ := w_51_1
                  have w_51_1 : (y_53).toInt ≤ (en).toInt ∧ g_ans x_50 (g_tk kd vl ((44 : Int32)).toInt (y_40 : Int32).toNatClampNeg) (y_53 : Int32).toNatClampNeg := w_51_1
                  have b_y_53 : 0 ≤ (y_53).toInt ∧ (y_53).toInt ≤ 1600 := dg_I.intb (lo := 0) (hi := 1600) I_51 sX_209 (by decide +kernel) f_y_53
                  refine lv_if_eq (tgt := 73) hx hb dX6_readChoice_47 (dk_dq rfl) (fun c_54 => ?_) (fun c_54 => ?_)
                  · as_aux_lemma =>
                      have jc_54 := dk_eqc (k := 0) (by decide +kernel) c_54
                      have qw_51_1 : g_tk kd vl 44 (y_40 : Int32).toNatClampNeg = none := by have h9 := w_51_1.2.2 (by omega); rw [show (44 : Int32).toInt = 44 from by decide +kernel] at h9; exact h9
                      have qw_51_1s := g_tk_none qw_51_1
                      refine lv_iconst (v := 0) hx hb dX6_readChoice_73 (by decide +kernel) ?_
                      refine lv_istore_n (lv' := [(2, .int 0), (0, .ref (o + 209)), (1, .int dp)]) hx hb dX6_readChoice_74 rfl hl (dk_dq rfl) rfl (fun ls hl => ?_)
                      refine lv_aload_n hx hb dX6_readChoice_75 rfl (lv_at hl 1 rfl) ?_
                      refine lv_bipush (v := (-9)) hx hb dX6_readChoice_76 (by decide +kernel) ?_
                      refine dg_callv hS hA1 hA (va_runV (As := [.int (-9)]) (rest := []) F (c_rd_put l g D o S_51 (-9) en S0 d0 gd hk_gd (((m_51.1 209 3 _ sX_209 (dk_dq rfl)).trans ((m_39.1 209 3 _ sX_209 (dk_dq rfl)).trans ((m_27.1 209 3 _ sX_209 (dk_dq rfl)).trans ((m_15.1 209 3 _ sX_209 (dk_dq rfl)).trans ((m_4.1 209 3 _ sX_209 (dk_dq rfl)).trans (m_1.1 209 3 _ sX_209 (dk_dq rfl))))))).trans f_gd) y_53 f_y_53 (by omega) y_41 ((m_51.1 209 7 _ sX_209 (dk_dq rfl)).trans f_y_41) (by omega) ke ((congrFun ((m_51.2 211 _ sX_211 (dk_dq rfl)).1.trans ((m_39.2 211 _ sX_211 (dk_dq rfl)).1.trans ((m_27.2 211 _ sX_211 (dk_dq rfl)).1.trans ((m_15.2 211 _ sX_211 (dk_dq rfl)).1.trans ((m_4.2 211 _ sX_211 (dk_dq rfl)).1.trans (m_1.2 211 _ sX_211 (dk_dq rfl)).1))))) _).trans f_ke) (by omega) (by omega) hd0 (G9X.keep w_39_3 m_51 (dk_dq rfl)) I_51 H.size) (cwV 1 hts (bw_V wB_96 wB_97 wB_98 wB_24 wB_95) rfl rfl rfl (by decide +kernel) ⟨by dsimp only; omega, by dsimp only; omega⟩) (dg_preV sX_209 rfl K ST hP hS hA1 hA) rfl rfl hl.1 rfl (lv_room (Nat.le_of_ble_eq_true rfl)) dX6_readChoice_78 ⟨Nat.le_of_ble_eq_true rfl, Nat.le_of_ble_eq_true rfl⟩) (fun S_55 hw_55 H locs hP hS => ?_)
                      obtain ⟨I_55, m_55, w_55_0, w_55_1, w_55_2, -⟩ := hw_55
                      have M_55 := dg_sm.tr M_51 m_55 (dk_dq rfl) (dk_dq rfl)
                      have hz_56 : (-9 : Int32).toInt = (-9) := by decide +kernel
                      replace w_55_0 : m_hid ((y_41).toInt < 1600 → q_as gd S_51 S_55 y_41 [((-9 : Int32)).toInt]) := w_55_0
                      obtain ⟨y_57, f_y_57, w_55_1⟩ := w_55_1
                      have w_55_1 : (y_41).toInt < 1600 → (y_57).toInt = (y_41).toInt + 1 := w_55_1
                      have b_y_57 : 0 ≤ (y_57).toInt ∧ (y_57).toInt ≤ 1600 := dg_I.intb (lo := 0) (hi := 1600) I_55 sX_209 (by decide +kernel) f_y_57
                      refine lv_iload_n hx hb dX6_readChoice_81 rfl (lv_at hl 0 rfl) ?_
                      have hz_58 : (0 : Int32).toInt = 0 := by decide +kernel
                      have hz_59 : (0 : Int32).toInt = 0 := by decide +kernel
                      have hz_60 : (0 : Int32).toInt = 0 := by decide +kernel
                      have hz_61 : (0 : Int32).toInt = 0 := by decide +kernel
                      refine W.widen (k := 0) (n := 0) (Nat.le_of_ble_eq_true rfl) (Nat.le_of_ble_eq_true rfl) ?_
                      exact dg_iret hx hb hr hlocks (by decide +kernel) hP hS ⟨I_55, M_55, (by decide +kernel), (m_hid.mk (fun q9 => absurd q9 (by omega))), ⟨y_53, y_57, ((m_55.1 209 4 _ sX_209 (dk_dq rfl)).trans f_y_53), f_y_57, ⟨⟨by omega, by omega⟩, g_ans.n (by omega) (by simp [x_choice, x_pair, g_tk, nq_y_2, qw_4_1s, nq_y_5, qw_15_2, qw_27_1s, nq_y_29, qw_39_2, qw_51_1s])⟩⟩, w_55_2, trivial⟩ dX6_readChoice_82
                  · as_aux_lemma =>
                      have jc_54 := dk_neqc (k := 0) (by decide +kernel) c_54
                      have qw_51_1 : g_tk kd vl 44 (y_40 : Int32).toNatClampNeg = some (y_53 : Int32).toNatClampNeg := by have h9 := w_51_1.2.1 (by omega); rw [show (44 : Int32).toInt = 44 from by decide +kernel] at h9; exact h9
                      have qw_51_1s := (g_tk_some qw_51_1).1
                      have nq_y_53 : (y_53 : Int32).toNatClampNeg = (y_40 : Int32).toNatClampNeg + 1 := by have h9 := (g_tk_some qw_51_1).2; omega
                      have ni_y_53 : (y_53).toInt = (y_40).toInt + 1 := by have h8 := dk_clN y_53; have h9 := dk_clN y_40; omega
                      refine lv_aload_n hx hb dX6_readChoice_50 rfl (lv_at hl 0 rfl) ?_
                      refine lv_iload_n hx hb dX6_readChoice_51 rfl (lv_at hl 1 rfl) ?_
                      refine lv_iconst (v := 1) hx hb dX6_readChoice_52 (by decide +kernel) ?_
                      refine lv_iadd hx hb dX6_readChoice_53 ?_
                      refine dk_top (y := dq) hdq ?_
                      refine dg_calli hS hA1 hA (va_runV (As := [.int dq]) (rest := []) F (hLS l g D o S_51 en kd vl S0 d0 gd hk_gd (((m_51.1 209 3 _ sX_209 (dk_dq rfl)).trans ((m_39.1 209 3 _ sX_209 (dk_dq rfl)).trans ((m_27.1 209 3 _ sX_209 (dk_dq rfl)).trans ((m_15.1 209 3 _ sX_209 (dk_dq rfl)).trans ((m_4.1 209 3 _ sX_209 (dk_dq rfl)).trans (m_1.1 209 3 _ sX_209 (dk_dq rfl))))))).trans f_gd) y_53 f_y_53 (by omega) ru (((m_51.1 209 6 _ sX_209 (dk_dq rfl)).trans ((m_39.1 209 6 _ sX_209 (dk_dq rfl)).trans ((m_27.1 209 6 _ sX_209 (dk_dq rfl)).trans ((m_15.1 209 6 _ sX_209 (dk_dq rfl)).trans ((m_4.1 209 6 _ sX_209 (dk_dq rfl)).trans (m_1.1 209 6 _ sX_209 (dk_dq rfl))))))).trans f_ru) (by omega) y_41 ((m_51.1 209 7 _ sX_209 (dk_dq rfl)).trans f_y_41) (by omega) ke ((congrFun ((m_51.2 211 _ sX_211 (dk_dq rfl)).1.trans ((m_39.2 211 _ sX_211 (dk_dq rfl)).1.trans ((m_27.2 211 _ sX_211 (dk_dq rfl)).1.trans ((m_15.2 211 _ sX_211 (dk_dq rfl)).1.trans ((m_4.2 211 _ sX_211 (dk_dq rfl)).1.trans (m_1.2 211 _ sX_211 (dk_dq rfl)).1))))) _).trans f_ke) (by omega) (by omega) (fun k9 h9 => (congrFun ((m_51.2 211 _ sX_211 (dk_dq rfl)).1.trans ((m_39.2 211 _ sX_211 (dk_dq rfl)).1.trans ((m_27.2 211 _ sX_211 (dk_dq rfl)).1.trans ((m_15.2 211 _ sX_211 (dk_dq rfl)).1.trans ((m_4.2 211 _ sX_211 (dk_dq rfl)).1.trans (m_1.2 211 _ sX_211 (dk_dq rfl)).1))))) k9).trans (hkd k9 h9)) (fun k9 h9 => (congrFun ((m_51.2 213 _ sX_213 (dk_dq rfl)).1.trans ((m_39.2 213 _ sX_213 (dk_dq rfl)).1.trans ((m_27.2 213 _ sX_213 (dk_dq rfl)).1.trans ((m_15.2 213 _ sX_213 (dk_dq rfl)).1.trans ((m_4.2 213 _ sX_213 (dk_dq rfl)).1.trans (m_1.2 213 _ sX_213 (dk_dq rfl)).1))))) k9).trans (hvl k9 h9)) (by omega) hd0 (G9X.keep w_39_3 m_51 (dk_dq rfl)) I_51 H.size) (cwV 1 hts (bw_V wB_128 wB_129 wB_130 wB_24 wB_127) rfl rfl rfl (by decide +kernel) ⟨by dsimp only; omega, by dsimp only; omega⟩) (dg_preV sX_209 rfl K ST hP hS hA1 hA) rfl rfl hl.1 rfl (lv_room (Nat.le_of_ble_eq_true rfl)) dX6_readChoice_54 ⟨Nat.le_of_ble_eq_true rfl, Nat.le_of_ble_eq_true rfl⟩) (fun x_62 S_63 hw_63 H locs hP hS => ?_)
                      obtain ⟨I_63, m_63, w_63_0, w_63_1, w_63_2, w_63_3, -⟩ := hw_63
                      have M_63 := dg_sm.tr M_51 m_63 (dk_dq rfl) (dk_dq rfl)
                      have w_63_0 : 0 ≤ (x_62).toInt ∧ (x_62).toInt ≤ 1 := w_63_0
                      replace w_63_1 : m_hid ((x_62).toInt = 1 → q_as gd S_51 S_63 y_41 ((d_lv kd vl (ru).toInt (jl + 1)).1 (y_53 : Int32).toNatClampNeg)) := w_63_1
                      have ap_63 : m_hid ((x_62).toInt = 1 → q_as gd S S_63 sc ((d_lv kd vl (ru).toInt (jl + 1)).2.1 ((n0 : Int32).toNatClampNeg + 2) ++ ((d_lv kd vl (ru).toInt (jl + 1)).1 ((y_16 : Int32).toNatClampNeg + 1)) ++ ((d_lv kd vl (ru).toInt (jl + 1)).1 ((y_40 : Int32).toNatClampNeg + 1)))) := m_hid.mk (fun q9 => (q_as.tr (ap_39.out (by omega)) (m_51.1 209 7 _ sX_209 (dk_dq rfl)) (m_51.2 (gd + 9) _ (rX_9 gd hk_gd) (dk_dq rfl)).1 ((m_51.1 209 7 _ sX_209 (dk_dq rfl)).trans f_y_41) (by have h9 := w_63_1.out q9; rw [nq_y_53] at h9; exact h9)))
                      obtain ⟨y_64, y_65, f_y_64, f_y_65, w_63_2⟩ := w_63_2
                      have w_63_2 : ((y_64).toInt ≤ (en).toInt ∧ ((x_62).toInt = 1 → ((y_41).toInt + 1 ≤ (y_65).toInt ∧ (y_65).toInt - (y_41).toInt ≤ (y_64).toInt - (y_53).toInt))) ∧ g_ans x_62 ((x_lv kd vl (ru).toInt (jl + 1)).1 (y_53 : Int32).toNatClampNeg) (y_64 : Int32).toNatClampNeg := w_63_2
                      have b_y_64 : 0 ≤ (y_64).toInt ∧ (y_64).toInt ≤ 1600 := dg_I.intb (lo := 0) (hi := 1600) I_63 sX_209 (by decide +kernel) f_y_64
                      have b_y_65 : 0 ≤ (y_65).toInt ∧ (y_65).toInt ≤ 1600 := dg_I.intb (lo := 0) (hi := 1600) I_63 sX_209 (by decide +kernel) f_y_65
                      refine lv_if_eq (tgt := 73) hx hb dX6_readChoice_57 (dk_dq rfl) (fun c_66 => ?_) (fun c_66 => ?_)
                      · as_aux_lemma =>
                          have jc_66 := dk_eqc (k := 0) (by decide +kernel) c_66
                          have qw_63_2 : (x_lv kd vl (ru).toInt (jl + 1)).1 ((y_40 : Int32).toNatClampNeg + 1) = none := by have h9 := w_63_2.2.2 (by omega); rw [nq_y_53] at h9; exact h9
                          refine lv_iconst (v := 0) hx hb dX6_readChoice_73 (by decide +kernel) ?_
                          refine lv_istore_n (lv' := [(2, .int 0), (0, .ref (o + 209)), (1, .int dp)]) hx hb dX6_readChoice_74 rfl hl (dk_dq rfl) rfl (fun ls hl => ?_)
                          refine lv_aload_n hx hb dX6_readChoice_75 rfl (lv_at hl 1 rfl) ?_
                          refine lv_bipush (v := (-9)) hx hb dX6_readChoice_76 (by decide +kernel) ?_
                          refine dg_callv hS hA1 hA (va_runV (As := [.int (-9)]) (rest := []) F (c_rd_put l g D o S_63 (-9) en S0 d0 gd hk_gd (((m_63.1 209 3 _ sX_209 (dk_dq rfl)).trans ((m_51.1 209 3 _ sX_209 (dk_dq rfl)).trans ((m_39.1 209 3 _ sX_209 (dk_dq rfl)).trans ((m_27.1 209 3 _ sX_209 (dk_dq rfl)).trans ((m_15.1 209 3 _ sX_209 (dk_dq rfl)).trans ((m_4.1 209 3 _ sX_209 (dk_dq rfl)).trans (m_1.1 209 3 _ sX_209 (dk_dq rfl)))))))).trans f_gd) y_64 f_y_64 (by omega) y_65 f_y_65 (by omega) ke ((congrFun ((m_63.2 211 _ sX_211 (dk_dq rfl)).1.trans ((m_51.2 211 _ sX_211 (dk_dq rfl)).1.trans ((m_39.2 211 _ sX_211 (dk_dq rfl)).1.trans ((m_27.2 211 _ sX_211 (dk_dq rfl)).1.trans ((m_15.2 211 _ sX_211 (dk_dq rfl)).1.trans ((m_4.2 211 _ sX_211 (dk_dq rfl)).1.trans (m_1.2 211 _ sX_211 (dk_dq rfl)).1)))))) _).trans f_ke) (by omega) (by omega) hd0 w_63_3 I_63 H.size) (cwV 1 hts (bw_V wB_96 wB_97 wB_98 wB_24 wB_95) rfl rfl rfl (by decide +kernel) ⟨by dsimp only; omega, by dsimp only; omega⟩) (dg_preV sX_209 rfl K ST hP hS hA1 hA) rfl rfl hl.1 rfl (lv_room (Nat.le_of_ble_eq_true rfl)) dX6_readChoice_78 ⟨Nat.le_of_ble_eq_true rfl, Nat.le_of_ble_eq_true rfl⟩) (fun S_67 hw_67 H locs hP hS => ?_)
                          obtain ⟨I_67, m_67, w_67_0, w_67_1, w_67_2, -⟩ := hw_67
                          have M_67 := dg_sm.tr M_63 m_67 (dk_dq rfl) (dk_dq rfl)
                          have hz_68 : (-9 : Int32).toInt = (-9) := by decide +kernel
                          replace w_67_0 : m_hid ((y_65).toInt < 1600 → q_as gd S_63 S_67 y_65 [((-9 : Int32)).toInt]) := w_67_0
                          obtain ⟨y_69, f_y_69, w_67_1⟩ := w_67_1
                          have w_67_1 : (y_65).toInt < 1600 → (y_69).toInt = (y_65).toInt + 1 := w_67_1
                          have b_y_69 : 0 ≤ (y_69).toInt ∧ (y_69).toInt ≤ 1600 := dg_I.intb (lo := 0) (hi := 1600) I_67 sX_209 (by decide +kernel) f_y_69
                          refine lv_iload_n hx hb dX6_readChoice_81 rfl (lv_at hl 0 rfl) ?_
                          have hz_70 : (0 : Int32).toInt = 0 := by decide +kernel
                          have hz_71 : (0 : Int32).toInt = 0 := by decide +kernel
                          have hz_72 : (0 : Int32).toInt = 0 := by decide +kernel
                          have hz_73 : (0 : Int32).toInt = 0 := by decide +kernel
                          refine W.widen (k := 0) (n := 0) (Nat.le_of_ble_eq_true rfl) (Nat.le_of_ble_eq_true rfl) ?_
                          exact dg_iret hx hb hr hlocks (by decide +kernel) hP hS ⟨I_67, M_67, (by decide +kernel), (m_hid.mk (fun q9 => absurd q9 (by omega))), ⟨y_64, y_69, ((m_67.1 209 4 _ sX_209 (dk_dq rfl)).trans f_y_64), f_y_69, ⟨⟨by omega, by omega⟩, g_ans.n (by omega) (by simp [x_choice, x_pair, g_tk, nq_y_2, qw_4_1s, nq_y_5, qw_15_2, qw_27_1s, nq_y_29, qw_39_2, qw_51_1s, nq_y_53, qw_63_2])⟩⟩, w_67_2, trivial⟩ dX6_readChoice_82
                      · as_aux_lemma =>
                          have jc_66 := dk_neqc (k := 0) (by decide +kernel) c_66
                          have qw_63_2 : (x_lv kd vl (ru).toInt (jl + 1)).1 ((y_40 : Int32).toNatClampNeg + 1) = some (y_64 : Int32).toNatClampNeg := by have h9 := w_63_2.2.1 (by omega); rw [nq_y_53] at h9; exact h9
                          refine lv_aload_n hx hb dX6_readChoice_60 rfl (lv_at hl 0 rfl) ?_
                          refine lv_bipush (v := 41) hx hb dX6_readChoice_61 (by decide +kernel) ?_
                          refine dg_calli hS hA1 hA (va_runV (As := [.int 41]) (rest := []) F (c_rd_takeSign l g D o S_63 41 en kd vl y_64 f_y_64 (by omega) ke ((congrFun ((m_63.2 211 _ sX_211 (dk_dq rfl)).1.trans ((m_51.2 211 _ sX_211 (dk_dq rfl)).1.trans ((m_39.2 211 _ sX_211 (dk_dq rfl)).1.trans ((m_27.2 211 _ sX_211 (dk_dq rfl)).1.trans ((m_15.2 211 _ sX_211 (dk_dq rfl)).1.trans ((m_4.2 211 _ sX_211 (dk_dq rfl)).1.trans (m_1.2 211 _ sX_211 (dk_dq rfl)).1)))))) _).trans f_ke) (by omega) (by omega) (fun k9 h9 => (congrFun ((m_63.2 211 _ sX_211 (dk_dq rfl)).1.trans ((m_51.2 211 _ sX_211 (dk_dq rfl)).1.trans ((m_39.2 211 _ sX_211 (dk_dq rfl)).1.trans ((m_27.2 211 _ sX_211 (dk_dq rfl)).1.trans ((m_15.2 211 _ sX_211 (dk_dq rfl)).1.trans ((m_4.2 211 _ sX_211 (dk_dq rfl)).1.trans (m_1.2 211 _ sX_211 (dk_dq rfl)).1)))))) k9).trans (hkd k9 h9)) (fun k9 h9 => (congrFun ((m_63.2 213 _ sX_213 (dk_dq rfl)).1.trans ((m_51.2 213 _ sX_213 (dk_dq rfl)).1.trans ((m_39.2 213 _ sX_213 (dk_dq rfl)).1.trans ((m_27.2 213 _ sX_213 (dk_dq rfl)).1.trans ((m_15.2 213 _ sX_213 (dk_dq rfl)).1.trans ((m_4.2 213 _ sX_213 (dk_dq rfl)).1.trans (m_1.2 213 _ sX_213 (dk_dq rfl)).1)))))) k9).trans (hvl k9 h9)) I_63 H.size) (cwV 1 hts (bw_V wB_152 wB_153 wB_154 wB_24 wB_151) rfl rfl rfl (by decide +kernel) ⟨by dsimp only; omega, by dsimp only; omega⟩) (dg_preV sX_209 rfl K ST hP hS hA1 hA) rfl rfl hl.1 rfl (lv_room (Nat.le_of_ble_eq_true rfl)) dX6_readChoice_63 ⟨Nat.le_of_ble_eq_true rfl, Nat.le_of_ble_eq_true rfl⟩) (fun x_74 S_75 hw_75 H locs hP hS => ?_)
                          obtain ⟨I_75, m_75, w_75_0, w_75_1, -⟩ := hw_75
                          have M_75 := dg_sm.tr M_63 m_75 (dk_dq rfl) (dk_dq rfl)
                          have hz_76 : (41 : Int32).toInt = 41 := by decide +kernel
                          have w_75_0 : 0 ≤ (x_74).toInt ∧ (x_74).toInt ≤ 1 := w_75_0
                          obtain ⟨y_77, f_y_77, w_75_1⟩ := w_75_1
                          have w_75_1 : (y_77).toInt ≤ (en).toInt ∧ g_ans x_74 (g_tk kd vl ((41 : Int32)).toInt (y_64 : Int32).toNatClampNeg) (y_77 : Int32).toNatClampNeg := w_75_1
                          have b_y_77 : 0 ≤ (y_77).toInt ∧ (y_77).toInt ≤ 1600 := dg_I.intb (lo := 0) (hi := 1600) I_75 sX_209 (by decide +kernel) f_y_77
                          refine lv_if_eq (tgt := 73) hx hb dX6_readChoice_66 (dk_dq rfl) (fun c_78 => ?_) (fun c_78 => ?_)
                          · as_aux_lemma =>
                              have jc_78 := dk_eqc (k := 0) (by decide +kernel) c_78
                              have qw_75_1 : g_tk kd vl 41 (y_64 : Int32).toNatClampNeg = none := by have h9 := w_75_1.2.2 (by omega); rw [show (41 : Int32).toInt = 41 from by decide +kernel] at h9; exact h9
                              have qw_75_1s := g_tk_none qw_75_1
                              refine lv_iconst (v := 0) hx hb dX6_readChoice_73 (by decide +kernel) ?_
                              refine lv_istore_n (lv' := [(2, .int 0), (0, .ref (o + 209)), (1, .int dp)]) hx hb dX6_readChoice_74 rfl hl (dk_dq rfl) rfl (fun ls hl => ?_)
                              refine lv_aload_n hx hb dX6_readChoice_75 rfl (lv_at hl 1 rfl) ?_
                              refine lv_bipush (v := (-9)) hx hb dX6_readChoice_76 (by decide +kernel) ?_
                              refine dg_callv hS hA1 hA (va_runV (As := [.int (-9)]) (rest := []) F (c_rd_put l g D o S_75 (-9) en S0 d0 gd hk_gd (((m_75.1 209 3 _ sX_209 (dk_dq rfl)).trans ((m_63.1 209 3 _ sX_209 (dk_dq rfl)).trans ((m_51.1 209 3 _ sX_209 (dk_dq rfl)).trans ((m_39.1 209 3 _ sX_209 (dk_dq rfl)).trans ((m_27.1 209 3 _ sX_209 (dk_dq rfl)).trans ((m_15.1 209 3 _ sX_209 (dk_dq rfl)).trans ((m_4.1 209 3 _ sX_209 (dk_dq rfl)).trans (m_1.1 209 3 _ sX_209 (dk_dq rfl))))))))).trans f_gd) y_77 f_y_77 (by omega) y_65 ((m_75.1 209 7 _ sX_209 (dk_dq rfl)).trans f_y_65) (by omega) ke ((congrFun ((m_75.2 211 _ sX_211 (dk_dq rfl)).1.trans ((m_63.2 211 _ sX_211 (dk_dq rfl)).1.trans ((m_51.2 211 _ sX_211 (dk_dq rfl)).1.trans ((m_39.2 211 _ sX_211 (dk_dq rfl)).1.trans ((m_27.2 211 _ sX_211 (dk_dq rfl)).1.trans ((m_15.2 211 _ sX_211 (dk_dq rfl)).1.trans ((m_4.2 211 _ sX_211 (dk_dq rfl)).1.trans (m_1.2 211 _ sX_211 (dk_dq rfl)).1))))))) _).trans f_ke) (by omega) (by omega) hd0 (G9X.keep w_63_3 m_75 (dk_dq rfl)) I_75 H.size) (cwV 1 hts (bw_V wB_96 wB_97 wB_98 wB_24 wB_95) rfl rfl rfl (by decide +kernel) ⟨by dsimp only; omega, by dsimp only; omega⟩) (dg_preV sX_209 rfl K ST hP hS hA1 hA) rfl rfl hl.1 rfl (lv_room (Nat.le_of_ble_eq_true rfl)) dX6_readChoice_78 ⟨Nat.le_of_ble_eq_true rfl, Nat.le_of_ble_eq_true rfl⟩) (fun S_79 hw_79 H locs hP hS => ?_)
                              obtain ⟨I_79, m_79, w_79_0, w_79_1, w_79_2, -⟩ := hw_79
                              have M_79 := dg_sm.tr M_75 m_79 (dk_dq rfl) (dk_dq rfl)
                              have hz_80 : (-9 : Int32).toInt = (-9) := by decide +kernel
                              replace w_79_0 : m_hid ((y_65).toInt < 1600 → q_as gd S_75 S_79 y_65 [((-9 : Int32)).toInt]) := w_79_0
                              obtain ⟨y_81, f_y_81, w_79_1⟩ := w_79_1
                              have w_79_1 : (y_65).toInt < 1600 → (y_81).toInt = (y_65).toInt + 1 := w_79_1
                              have b_y_81 : 0 ≤ (y_81).toInt ∧ (y_81).toInt ≤ 1600 := dg_I.intb (lo := 0) (hi := 1600) I_79 sX_209 (by decide +kernel) f_y_81
                              refine lv_iload_n hx hb dX6_readChoice_81 rfl (lv_at hl 0 rfl) ?_
                              have hz_82 : (0 : Int32).toInt = 0 := by decide +kernel
                              have hz_83 : (0 : Int32).toInt = 0 := by decide +kernel
                              have hz_84 : (0 : Int32).toInt = 0 := by decide +kernel
                              have hz_85 : (0 : Int32).toInt = 0 := by decide +kernel
                              refine W.widen (k := 0) (n := 0) (Nat.le_of_ble_eq_true rfl) (Nat.le_of_ble_eq_true rfl) ?_
                              exact dg_iret hx hb hr hlocks (by decide +kernel) hP hS ⟨I_79, M_79, (by decide +kernel), (m_hid.mk (fun q9 => absurd q9 (by omega))), ⟨y_77, y_81, ((m_79.1 209 4 _ sX_209 (dk_dq rfl)).trans f_y_77), f_y_81, ⟨⟨by omega, by omega⟩, g_ans.n (by omega) (by simp [x_choice, x_pair, g_tk, nq_y_2, qw_4_1s, nq_y_5, qw_15_2, qw_27_1s, nq_y_29, qw_39_2, qw_51_1s, nq_y_53, qw_63_2, qw_75_1s])⟩⟩, w_79_2, trivial⟩ dX6_readChoice_82
                          · as_aux_lemma =>
                              have jc_78 := dk_neqc (k := 0) (by decide +kernel) c_78
                              have qw_75_1 : g_tk kd vl 41 (y_64 : Int32).toNatClampNeg = some (y_77 : Int32).toNatClampNeg := by have h9 := w_75_1.2.1 (by omega); rw [show (41 : Int32).toInt = 41 from by decide +kernel] at h9; exact h9
                              have qw_75_1s := (g_tk_some qw_75_1).1
                              have nq_y_77 : (y_77 : Int32).toNatClampNeg = (y_64 : Int32).toNatClampNeg + 1 := by have h9 := (g_tk_some qw_75_1).2; omega
                              have ni_y_77 : (y_77).toInt = (y_64).toInt + 1 := by have h8 := dk_clN y_77; have h9 := dk_clN y_64; omega
                              refine lv_iconst (v := 1) hx hb dX6_readChoice_69 (by decide +kernel) ?_
                              refine lv_goto (tgt := 74) hx hb dX6_readChoice_70 (dk_dq rfl) ?_
                              refine lv_istore_n (lv' := [(2, .int 1), (0, .ref (o + 209)), (1, .int dp)]) hx hb dX6_readChoice_74 rfl hl (dk_dq rfl) rfl (fun ls hl => ?_)
                              refine lv_aload_n hx hb dX6_readChoice_75 rfl (lv_at hl 1 rfl) ?_
                              refine lv_bipush (v := (-9)) hx hb dX6_readChoice_76 (by decide +kernel) ?_
                              refine dg_callv hS hA1 hA (va_runV (As := [.int (-9)]) (rest := []) F (c_rd_put l g D o S_75 (-9) en S0 d0 gd hk_gd (((m_75.1 209 3 _ sX_209 (dk_dq rfl)).trans ((m_63.1 209 3 _ sX_209 (dk_dq rfl)).trans ((m_51.1 209 3 _ sX_209 (dk_dq rfl)).trans ((m_39.1 209 3 _ sX_209 (dk_dq rfl)).trans ((m_27.1 209 3 _ sX_209 (dk_dq rfl)).trans ((m_15.1 209 3 _ sX_209 (dk_dq rfl)).trans ((m_4.1 209 3 _ sX_209 (dk_dq rfl)).trans (m_1.1 209 3 _ sX_209 (dk_dq rfl))))))))).trans f_gd) y_77 f_y_77 (by omega) y_65 ((m_75.1 209 7 _ sX_209 (dk_dq rfl)).trans f_y_65) (by omega) ke ((congrFun ((m_75.2 211 _ sX_211 (dk_dq rfl)).1.trans ((m_63.2 211 _ sX_211 (dk_dq rfl)).1.trans ((m_51.2 211 _ sX_211 (dk_dq rfl)).1.trans ((m_39.2 211 _ sX_211 (dk_dq rfl)).1.trans ((m_27.2 211 _ sX_211 (dk_dq rfl)).1.trans ((m_15.2 211 _ sX_211 (dk_dq rfl)).1.trans ((m_4.2 211 _ sX_211 (dk_dq rfl)).1.trans (m_1.2 211 _ sX_211 (dk_dq rfl)).1))))))) _).trans f_ke) (by omega) (by omega) hd0 (G9X.keep w_63_3 m_75 (dk_dq rfl)) I_75 H.size) (cwV 1 hts (bw_V wB_96 wB_97 wB_98 wB_24 wB_95) rfl rfl rfl (by decide +kernel) ⟨by dsimp only; omega, by dsimp only; omega⟩) (dg_preV sX_209 rfl K ST hP hS hA1 hA) rfl rfl hl.1 rfl (lv_room (Nat.le_of_ble_eq_true rfl)) dX6_readChoice_78 ⟨Nat.le_of_ble_eq_true rfl, Nat.le_of_ble_eq_true rfl⟩) (fun S_86 hw_86 H locs hP hS => ?_)
                              obtain ⟨I_86, m_86, w_86_0, w_86_1, w_86_2, -⟩ := hw_86
                              have M_86 := dg_sm.tr M_75 m_86 (dk_dq rfl) (dk_dq rfl)
                              have hz_87 : (-9 : Int32).toInt = (-9) := by decide +kernel
                              replace w_86_0 : m_hid ((y_65).toInt < 1600 → q_as gd S_75 S_86 y_65 [((-9 : Int32)).toInt]) := w_86_0
                              have ap_86 : q_as gd S S_86 sc ((d_lv kd vl (ru).toInt (jl + 1)).2.1 ((n0 : Int32).toNatClampNeg + 2) ++ ((d_lv kd vl (ru).toInt (jl + 1)).1 ((y_16 : Int32).toNatClampNeg + 1)) ++ ((d_lv kd vl (ru).toInt (jl + 1)).1 ((y_40 : Int32).toNatClampNeg + 1)) ++ [-9]) := (q_as.tr (ap_63.out (by omega)) (m_75.1 209 7 _ sX_209 (dk_dq rfl)) (m_75.2 (gd + 9) _ (rX_9 gd hk_gd) (dk_dq rfl)).1 ((m_75.1 209 7 _ sX_209 (dk_dq rfl)).trans f_y_65) (by have h9 := w_86_0.out (by omega); rw [show (-9 : Int32).toInt = -9 from by decide +kernel] at h9; exact h9))
                              obtain ⟨y_88, f_y_88, w_86_1⟩ := w_86_1
                              have w_86_1 : (y_65).toInt < 1600 → (y_88).toInt = (y_65).toInt + 1 := w_86_1
                              have b_y_88 : 0 ≤ (y_88).toInt ∧ (y_88).toInt ≤ 1600 := dg_I.intb (lo := 0) (hi := 1600) I_86 sX_209 (by decide +kernel) f_y_88
                              refine lv_iload_n hx hb dX6_readChoice_81 rfl (lv_at hl 0 rfl) ?_
                              have hz_89 : (1 : Int32).toInt = 1 := by decide +kernel
                              have hz_90 : (1 : Int32).toInt = 1 := by decide +kernel
                              have hz_91 : (1 : Int32).toInt = 1 := by decide +kernel
                              have hz_92 : (1 : Int32).toInt = 1 := by decide +kernel
                              refine W.widen (k := 0) (n := 0) (Nat.le_of_ble_eq_true rfl) (Nat.le_of_ble_eq_true rfl) ?_
                              exact dg_iret hx hb hr hlocks (by decide +kernel) hP hS ⟨I_86, M_86, (by decide +kernel), (m_hid.mk (fun q9 => q_as.to ap_86 (by simp [d_choice, d_pair, nq_y_2, qw_4_1s, nq_y_5, qw_15_2, qw_27_1s, nq_y_29, qw_39_2, qw_51_1s, nq_y_53, qw_63_2, qw_75_1s, nq_y_77]))), ⟨y_77, y_88, ((m_86.1 209 4 _ sX_209 (dk_dq rfl)).trans f_y_77), f_y_88, ⟨⟨by omega, by omega⟩, g_ans.y (by omega) (by simp [x_choice, x_pair, g_tk, nq_y_2, qw_4_1s, nq_y_5, qw_15_2, qw_27_1s, nq_y_29, qw_39_2, qw_51_1s, nq_y_53, qw_63_2, qw_75_1s, nq_y_77])⟩⟩, w_86_2, trivial⟩ dX6_readChoice_82
set_option maxHeartbeats 8000000 in
set_option maxRecDepth 100000 in
theorem cg_readPair (jl : Nat) (dp dq : Int32) (hdp : dp < 7) (hdq : dp + 1 = dq) (hLT : lvT dq jl) (hLS : lvS dq jl) (hLF : lvF dq jl) (l : Launch) (g : Nat → ClassId) (D : va_G) (o : Nat) (S : dg_S) (a2 : Int32) (en : Int32) (kd : Nat → Int32) (vl : Nat → Int32) (S0 : dg_S) (d0 : Nat) (gd : Nat) (hk_gd : rX gd) (f_gd : S.1 209 3 = .ref (o + gd)) (n0 : Int32) (f_n0 : S.1 209 4 = .int n0) (b_n0 : 0 ≤ (n0).toInt ∧ (n0).toInt ≤ 1600) (ru : Int32) (f_ru : S.1 209 6 = .int ru) (b_ru : 0 ≤ (ru).toInt ∧ (ru).toInt ≤ 2) (sc : Int32) (f_sc : S.1 209 7 = .int sc) (b_sc : 0 ≤ (sc).toInt ∧ (sc).toInt ≤ 1600) (ke : Int32) (f_ke : S.2.1 211 (en : Int32).toNatClampNeg = ke) (b_ke : 0 ≤ (ke).toInt ∧ (ke).toInt ≤ 0) (hne : (n0).toInt ≤ (en).toInt ∧ (en).toInt ≤ 1600 ∧ 0 ≤ (en).toInt) (hkd : ∀ k9 : Nat, k9 ≤ (en : Int32).toNatClampNeg → S.2.1 211 k9 = kd k9) (hvl : ∀ k9 : Nat, k9 ≤ (en : Int32).toNatClampNeg → S.2.1 213 k9 = vl k9) (hsc : (sc).toInt ≤ (n0).toInt) (hkn : (kd (n0 : Int32).toNatClampNeg).toInt ≠ 0) (hd0 : d0 ≠ gd) (G9 : G9X S0 d0 S) (I : CX o S) (sz : Nat) : Met l yX6_readPair (bw yX6_readPair cX6_readPair 4 (some .boolean)) ({ frames := 8 * jl + 8, cells := 0, slots := 0, locals := 183 * jl + 189 } : Room) (dk_Pc g D (dg_w g shX o rfX S) sz [.ref (o + 209), .int dp, .int a2]) (va_Qi (fun (r : Int32) S' => CX o S' ∧ dg_sm shX [(31, 0), (31, 1), (31, 4), (31, 7)] [28] S S' ∧ (0 ≤ (r).toInt ∧ (r).toInt ≤ 1) ∧ (m_hid ((r).toInt = 1 → q_as gd S S' sc (d_pair (x_lv kd vl (ru).toInt (jl + 1)).1 (d_lv kd vl (ru).toInt (jl + 1)).1 ((n0 : Int32).toNatClampNeg + 2) ++ [(a2).toInt]))) ∧ (∃ y9_4 y9_7 : Int32, S'.1 209 4 = .int y9_4 ∧ S'.1 209 7 = .int y9_7 ∧ (((y9_4).toInt ≤ (en).toInt ∧ ((r).toInt = 1 → ((sc).toInt + 1 ≤ (y9_7).toInt ∧ (y9_7).toInt - (sc).toInt ≤ (y9_4).toInt - (n0).toInt))) ∧ g_ans r (x_prs kd vl (x_lv kd vl (ru).toInt (jl + 1)).1 (n0 : Int32).toNatClampNeg) (y9_4 : Int32).toNatClampNeg)) ∧ G9X S0 d0 S' ∧ True) (dg_B g D shX o rfX) (dg_A o shX.length sz)) 0 0 (dg_A o shX.length sz) := by
  refine dg_met (cc := cX6_readPair) (maxL := 4) (ret := (some .boolean)) (dk_dq rfl) rfl (Nat.le_of_ble_eq_true rfl) ?_
  intro p e s m args below meth c A hAe harg hx hb hr hml hts hown hlocks hin hP K hS hA1 hA ST hsz ls hl
  rw [← hAe]
  have F : CallFix p m c cX6_readPair 4 s args (bw yX6_readPair cX6_readPair 4 (some .boolean)) RX6 := ⟨hx, hb, hml, hown, hts⟩
  have hl : lv_has ls 4 [(0, .ref (o + 209)), (1, .int dp), (2, .int a2)] := hl
  have M_0 : dg_sm shX [(31, 0), (31, 1), (31, 4), (31, 7)] [28] S S := dg_sm.rf
  refine lv_aload_n hx hb dX6_readPair_0 rfl (lv_at hl 0 rfl) ?_
  refine dg_callv hS hA1 hA (va_runV (As := []) (rest := []) F (c_rd_pass l g D o S en kd vl n0 f_n0 (by omega) ke f_ke (by omega) (by omega) hkd hvl I s.heap.size) (cwV 0 hts (bw_V wB_26 wB_27 wB_28 wB_24 wB_25) rfl rfl rfl (by decide +kernel) ⟨by dsimp only; omega, by dsimp only; omega⟩) (dg_preV sX_209 rfl K ST hP hS hA1 hA) rfl rfl hl.1 rfl (lv_room (Nat.le_of_ble_eq_true rfl)) dX6_readPair_1 ⟨Nat.le_of_ble_eq_true rfl, Nat.le_of_ble_eq_true rfl⟩) (fun S_1 hw_1 H locs hP hS => ?_)
  obtain ⟨I_1, m_1, w_1_0, -⟩ := hw_1
  have M_1 := dg_sm.tr M_0 m_1 (dk_dq rfl) (dk_dq rfl)
  obtain ⟨y_2, f_y_2, w_1_0⟩ := w_1_0
  have w_1_0 : (y_2).toInt ≤ (en).toInt ∧ ((kd (n0 : Int32).toNatClampNeg).toInt ≠ 0 → (y_2 : Int32).toNatClampNeg = (n0 : Int32).toNatClampNeg + 1) := w_1_0
  have b_y_2 : 0 ≤ (y_2).toInt ∧ (y_2).toInt ≤ 1600 := dg_I.intb (lo := 0) (hi := 1600) I_1 sX_209 (by decide +kernel) f_y_2
  have nq_y_2 : (y_2 : Int32).toNatClampNeg = (n0 : Int32).toNatClampNeg + 1 := by have h9 := w_1_0.2 hkn; omega
  have ni_y_2 : (y_2).toInt = (n0).toInt + 1 := by have h8 := dk_clN y_2; have h9 := dk_clN n0; omega
  refine lv_aload_n hx hb dX6_readPair_4 rfl (lv_at hl 0 rfl) ?_
  refine lv_iload_n hx hb dX6_readPair_5 rfl (lv_at hl 1 rfl) ?_
  refine dg_calli hS hA1 hA (va_runV (As := [.int dp]) (rest := []) F (cg_takeOpening jl dp dq hdp hdq hLT hLS hLF l g D o S_1 en kd vl y_2 f_y_2 (by omega) ke ((congrFun (m_1.2 211 _ sX_211 (dk_dq rfl)).1 _).trans f_ke) (by omega) (by omega) (fun k9 h9 => (congrFun (m_1.2 211 _ sX_211 (dk_dq rfl)).1 k9).trans (hkd k9 h9)) (fun k9 h9 => (congrFun (m_1.2 213 _ sX_213 (dk_dq rfl)).1 k9).trans (hvl k9 h9)) I_1 H.size) (cwV 1 hts (bw_V wB_92 wB_93 wB_94 wB_24 wB_91) rfl rfl rfl (by decide +kernel) ⟨by dsimp only; omega, by dsimp only; omega⟩) (dg_preV sX_209 rfl K ST hP hS hA1 hA) rfl rfl hl.1 rfl (lv_room (Nat.le_of_ble_eq_true rfl)) dX6_readPair_6 ⟨Nat.le_of_ble_eq_true rfl, Nat.le_of_ble_eq_true rfl⟩) (fun x_3 S_4 hw_4 H locs hP hS => ?_)
  obtain ⟨I_4, m_4, w_4_0, w_4_1, -⟩ := hw_4
  have M_4 := dg_sm.tr M_1 m_4 (dk_dq rfl) (dk_dq rfl)
  have w_4_0 : 0 ≤ (x_3).toInt ∧ (x_3).toInt ≤ 1 := w_4_0
  obtain ⟨y_5, f_y_5, w_4_1⟩ := w_4_1
  have w_4_1 : (y_5).toInt ≤ (en).toInt ∧ g_ans x_3 (g_tk kd vl 40 (y_2 : Int32).toNatClampNeg) (y_5 : Int32).toNatClampNeg := w_4_1
  have b_y_5 : 0 ≤ (y_5).toInt ∧ (y_5).toInt ≤ 1600 := dg_I.intb (lo := 0) (hi := 1600) I_4 sX_209 (by decide +kernel) f_y_5
  refine lv_if_eq (tgt := 54) hx hb dX6_readPair_9 (dk_dq rfl) (fun c_6 => ?_) (fun c_6 => ?_)
  · as_aux_lemma =>
      have jc_6 := dk_eqc (k := 0) (by decide +kernel) c_6
      have qw_4_1 : g_tk kd vl 40 ((n0 : Int32).toNatClampNeg + 1) = none := by have h9 := w_4_1.2.2 (by omega); rw [nq_y_2] at h9; exact h9
      have qw_4_1s := g_tk_none qw_4_1
      refine lv_iconst (v := 0) hx hb dX6_readPair_54 (by decide +kernel) ?_
      refine lv_istore_n (lv' := [(3, .int 0), (0, .ref (o + 209)), (1, .int dp), (2, .int a2)]) hx hb dX6_readPair_55 rfl hl (dk_dq rfl) rfl (fun ls hl => ?_)
      refine lv_aload_n hx hb dX6_readPair_56 rfl (lv_at hl 1 rfl) ?_
      refine lv_iload_n hx hb dX6_readPair_57 rfl (lv_at hl 3 rfl) ?_
      refine dg_callv hS hA1 hA (va_runV (As := [.int a2]) (rest := []) F (c_rd_put l g D o S_4 a2 en S0 d0 gd hk_gd (((m_4.1 209 3 _ sX_209 (dk_dq rfl)).trans (m_1.1 209 3 _ sX_209 (dk_dq rfl))).trans f_gd) y_5 f_y_5 (by omega) sc (((m_4.1 209 7 _ sX_209 (dk_dq rfl)).trans (m_1.1 209 7 _ sX_209 (dk_dq rfl))).trans f_sc) (by omega) ke ((congrFun ((m_4.2 211 _ sX_211 (dk_dq rfl)).1.trans (m_1.2 211 _ sX_211 (dk_dq rfl)).1) _).trans f_ke) (by omega) (by omega) hd0 (G9X.keep (G9X.keep G9 m_1 (dk_dq rfl)) m_4 (dk_dq rfl)) I_4 H.size) (cwV 1 hts (bw_V wB_96 wB_97 wB_98 wB_24 wB_95) rfl rfl rfl (by decide +kernel) ⟨by dsimp only; omega, by dsimp only; omega⟩) (dg_preV sX_209 rfl K ST hP hS hA1 hA) rfl rfl hl.1 rfl (lv_room (Nat.le_of_ble_eq_true rfl)) dX6_readPair_58 ⟨Nat.le_of_ble_eq_true rfl, Nat.le_of_ble_eq_true rfl⟩) (fun S_7 hw_7 H locs hP hS => ?_)
      obtain ⟨I_7, m_7, w_7_0, w_7_1, w_7_2, -⟩ := hw_7
      have M_7 := dg_sm.tr M_4 m_7 (dk_dq rfl) (dk_dq rfl)
      replace w_7_0 : m_hid ((sc).toInt < 1600 → q_as gd S_4 S_7 sc [(a2).toInt]) := w_7_0
      obtain ⟨y_8, f_y_8, w_7_1⟩ := w_7_1
      have w_7_1 : (sc).toInt < 1600 → (y_8).toInt = (sc).toInt + 1 := w_7_1
      have b_y_8 : 0 ≤ (y_8).toInt ∧ (y_8).toInt ≤ 1600 := dg_I.intb (lo := 0) (hi := 1600) I_7 sX_209 (by decide +kernel) f_y_8
      refine lv_iload_n hx hb dX6_readPair_61 rfl (lv_at hl 0 rfl) ?_
      have hz_9 : (0 : Int32).toInt = 0 := by decide +kernel
      have hz_10 : (0 : Int32).toInt = 0 := by decide +kernel
      have hz_11 : (0 : Int32).toInt = 0 := by decide +kernel
      have hz_12 : (0 : Int32).toInt = 0 := by decide +kernel
      refine W.widen (k := 0) (n := 0) (Nat.le_of_ble_eq_true rfl) (Nat.le_of_ble_eq_true rfl) ?_
      exact dg_iret hx hb hr hlocks (by decide +kernel) hP hS ⟨I_7, M_7, (by decide +kernel), (m_hid.mk (fun q9 => absurd q9 (by omega))), ⟨y_5, y_8, ((m_7.1 209 4 _ sX_209 (dk_dq rfl)).trans f_y_5), f_y_8, ⟨⟨by omega, by omega⟩, g_ans.n (by omega) (by simp [x_prs, x_pair, g_tk, nq_y_2, qw_4_1s])⟩⟩, w_7_2, trivial⟩ dX6_readPair_62
  · as_aux_lemma =>
      have jc_6 := dk_neqc (k := 0) (by decide +kernel) c_6
      have qw_4_1 : g_tk kd vl 40 ((n0 : Int32).toNatClampNeg + 1) = some (y_5 : Int32).toNatClampNeg := by have h9 := w_4_1.2.1 (by omega); rw [nq_y_2] at h9; exact h9
      have qw_4_1s := (g_tk_some qw_4_1).1
      have nq_y_5 : (y_5 : Int32).toNatClampNeg = (n0 : Int32).toNatClampNeg + 2 := by have h9 := (g_tk_some qw_4_1).2; omega
      have ni_y_5 : (y_5).toInt = (n0).toInt + 2 := by have h8 := dk_clN y_5; have h9 := dk_clN n0; omega
      refine lv_aload_n hx hb dX6_readPair_12 rfl (lv_at hl 0 rfl) ?_
      refine lv_iload_n hx hb dX6_readPair_13 rfl (lv_at hl 1 rfl) ?_
      refine lv_iconst (v := 1) hx hb dX6_readPair_14 (by decide +kernel) ?_
      refine lv_iadd hx hb dX6_readPair_15 ?_
      refine dk_top (y := dq) hdq ?_
      refine dg_calli hS hA1 hA (va_runV (As := [.int dq]) (rest := []) F (hLS l g D o S_4 en kd vl S0 d0 gd hk_gd (((m_4.1 209 3 _ sX_209 (dk_dq rfl)).trans (m_1.1 209 3 _ sX_209 (dk_dq rfl))).trans f_gd) y_5 f_y_5 (by omega) ru (((m_4.1 209 6 _ sX_209 (dk_dq rfl)).trans (m_1.1 209 6 _ sX_209 (dk_dq rfl))).trans f_ru) (by omega) sc (((m_4.1 209 7 _ sX_209 (dk_dq rfl)).trans (m_1.1 209 7 _ sX_209 (dk_dq rfl))).trans f_sc) (by omega) ke ((congrFun ((m_4.2 211 _ sX_211 (dk_dq rfl)).1.trans (m_1.2 211 _ sX_211 (dk_dq rfl)).1) _).trans f_ke) (by omega) (by omega) (fun k9 h9 => (congrFun ((m_4.2 211 _ sX_211 (dk_dq rfl)).1.trans (m_1.2 211 _ sX_211 (dk_dq rfl)).1) k9).trans (hkd k9 h9)) (fun k9 h9 => (congrFun ((m_4.2 213 _ sX_213 (dk_dq rfl)).1.trans (m_1.2 213 _ sX_213 (dk_dq rfl)).1) k9).trans (hvl k9 h9)) (by omega) hd0 (G9X.keep (G9X.keep G9 m_1 (dk_dq rfl)) m_4 (dk_dq rfl)) I_4 H.size) (cwV 1 hts (bw_V wB_128 wB_129 wB_130 wB_24 wB_127) rfl rfl rfl (by decide +kernel) ⟨by dsimp only; omega, by dsimp only; omega⟩) (dg_preV sX_209 rfl K ST hP hS hA1 hA) rfl rfl hl.1 rfl (lv_room (Nat.le_of_ble_eq_true rfl)) dX6_readPair_16 ⟨Nat.le_of_ble_eq_true rfl, Nat.le_of_ble_eq_true rfl⟩) (fun x_13 S_14 hw_14 H locs hP hS => ?_)
      obtain ⟨I_14, m_14, w_14_0, w_14_1, w_14_2, w_14_3, -⟩ := hw_14
      have M_14 := dg_sm.tr M_4 m_14 (dk_dq rfl) (dk_dq rfl)
      have w_14_0 : 0 ≤ (x_13).toInt ∧ (x_13).toInt ≤ 1 := w_14_0
      replace w_14_1 : m_hid ((x_13).toInt = 1 → q_as gd S_4 S_14 sc ((d_lv kd vl (ru).toInt (jl + 1)).1 (y_5 : Int32).toNatClampNeg)) := w_14_1
      have ap_14 : m_hid ((x_13).toInt = 1 → q_as gd S S_14 sc ((d_lv kd vl (ru).toInt (jl + 1)).1 ((n0 : Int32).toNatClampNeg + 2))) := m_hid.mk (fun q9 => (q_as.fst ((m_4.2 (gd + 9) _ (rX_9 gd hk_gd) (dk_dq rfl)).1.trans (m_1.2 (gd + 9) _ (rX_9 gd hk_gd) (dk_dq rfl)).1) (by have h9 := w_14_1.out q9; rw [nq_y_5] at h9; exact h9)))
      obtain ⟨y_15, y_16, f_y_15, f_y_16, w_14_2⟩ := w_14_2
      have w_14_2 : ((y_15).toInt ≤ (en).toInt ∧ ((x_13).toInt = 1 → ((sc).toInt + 1 ≤ (y_16).toInt ∧ (y_16).toInt - (sc).toInt ≤ (y_15).toInt - (y_5).toInt))) ∧ g_ans x_13 ((x_lv kd vl (ru).toInt (jl + 1)).1 (y_5 : Int32).toNatClampNeg) (y_15 : Int32).toNatClampNeg := w_14_2
      have b_y_15 : 0 ≤ (y_15).toInt ∧ (y_15).toInt ≤ 1600 := dg_I.intb (lo := 0) (hi := 1600) I_14 sX_209 (by decide +kernel) f_y_15
      have b_y_16 : 0 ≤ (y_16).toInt ∧ (y_16).toInt ≤ 1600 := dg_I.intb (lo := 0) (hi := 1600) I_14 sX_209 (by decide +kernel) f_y_16
      refine lv_if_eq (tgt := 54) hx hb dX6_readPair_19 (dk_dq rfl) (fun c_17 => ?_) (fun c_17 => ?_)
      · as_aux_lemma =>
          have jc_17 := dk_eqc (k := 0) (by decide +kernel) c_17
          have qw_14_2 : (x_lv kd vl (ru).toInt (jl + 1)).1 ((n0 : Int32).toNatClampNeg + 2) = none := by have h9 := w_14_2.2.2 (by omega); rw [nq_y_5] at h9; exact h9
          refine lv_iconst (v := 0) hx hb dX6_readPair_54 (by decide +kernel) ?_
          refine lv_istore_n (lv' := [(3, .int 0), (0, .ref (o + 209)), (1, .int dp), (2, .int a2)]) hx hb dX6_readPair_55 rfl hl (dk_dq rfl) rfl (fun ls hl => ?_)
          refine lv_aload_n hx hb dX6_readPair_56 rfl (lv_at hl 1 rfl) ?_
          refine lv_iload_n hx hb dX6_readPair_57 rfl (lv_at hl 3 rfl) ?_
          refine dg_callv hS hA1 hA (va_runV (As := [.int a2]) (rest := []) F (c_rd_put l g D o S_14 a2 en S0 d0 gd hk_gd (((m_14.1 209 3 _ sX_209 (dk_dq rfl)).trans ((m_4.1 209 3 _ sX_209 (dk_dq rfl)).trans (m_1.1 209 3 _ sX_209 (dk_dq rfl)))).trans f_gd) y_15 f_y_15 (by omega) y_16 f_y_16 (by omega) ke ((congrFun ((m_14.2 211 _ sX_211 (dk_dq rfl)).1.trans ((m_4.2 211 _ sX_211 (dk_dq rfl)).1.trans (m_1.2 211 _ sX_211 (dk_dq rfl)).1)) _).trans f_ke) (by omega) (by omega) hd0 w_14_3 I_14 H.size) (cwV 1 hts (bw_V wB_96 wB_97 wB_98 wB_24 wB_95) rfl rfl rfl (by decide +kernel) ⟨by dsimp only; omega, by dsimp only; omega⟩) (dg_preV sX_209 rfl K ST hP hS hA1 hA) rfl rfl hl.1 rfl (lv_room (Nat.le_of_ble_eq_true rfl)) dX6_readPair_58 ⟨Nat.le_of_ble_eq_true rfl, Nat.le_of_ble_eq_true rfl⟩) (fun S_18 hw_18 H locs hP hS => ?_)
          obtain ⟨I_18, m_18, w_18_0, w_18_1, w_18_2, -⟩ := hw_18
          have M_18 := dg_sm.tr M_14 m_18 (dk_dq rfl) (dk_dq rfl)
          replace w_18_0 : m_hid ((y_16).toInt < 1600 → q_as gd S_14 S_18 y_16 [(a2).toInt]) := w_18_0
          obtain ⟨y_19, f_y_19, w_18_1⟩ := w_18_1
          have w_18_1 : (y_16).toInt < 1600 → (y_19).toInt = (y_16).toInt + 1 := w_18_1
          have b_y_19 : 0 ≤ (y_19).toInt ∧ (y_19).toInt ≤ 1600 := dg_I.intb (lo := 0) (hi := 1600) I_18 sX_209 (by decide +kernel) f_y_19
          refine lv_iload_n hx hb dX6_readPair_61 rfl (lv_at hl 0 rfl) ?_
          have hz_20 : (0 : Int32).toInt = 0 := by decide +kernel
          have hz_21 : (0 : Int32).toInt = 0 := by decide +kernel
          have hz_22 : (0 : Int32).toInt = 0 := by decide +kernel
          have hz_23 : (0 : Int32).toInt = 0 := by decide +kernel
          refine W.widen (k := 0) (n := 0) (Nat.le_of_ble_eq_true rfl) (Nat.le_of_ble_eq_true rfl) ?_
          exact dg_iret hx hb hr hlocks (by decide +kernel) hP hS ⟨I_18, M_18, (by decide +kernel), (m_hid.mk (fun q9 => absurd q9 (by omega))), ⟨y_15, y_19, ((m_18.1 209 4 _ sX_209 (dk_dq rfl)).trans f_y_15), f_y_19, ⟨⟨by omega, by omega⟩, g_ans.n (by omega) (by simp [x_prs, x_pair, g_tk, nq_y_2, qw_4_1s, nq_y_5, qw_14_2])⟩⟩, w_18_2, trivial⟩ dX6_readPair_62
      · as_aux_lemma =>
          have jc_17 := dk_neqc (k := 0) (by decide +kernel) c_17
          have qw_14_2 : (x_lv kd vl (ru).toInt (jl + 1)).1 ((n0 : Int32).toNatClampNeg + 2) = some (y_15 : Int32).toNatClampNeg := by have h9 := w_14_2.2.1 (by omega); rw [nq_y_5] at h9; exact h9
          refine lv_aload_n hx hb dX6_readPair_22 rfl (lv_at hl 0 rfl) ?_
          refine lv_bipush (v := 44) hx hb dX6_readPair_23 (by decide +kernel) ?_
          refine dg_calli hS hA1 hA (va_runV (As := [.int 44]) (rest := []) F (c_rd_takeSign l g D o S_14 44 en kd vl y_15 f_y_15 (by omega) ke ((congrFun ((m_14.2 211 _ sX_211 (dk_dq rfl)).1.trans ((m_4.2 211 _ sX_211 (dk_dq rfl)).1.trans (m_1.2 211 _ sX_211 (dk_dq rfl)).1)) _).trans f_ke) (by omega) (by omega) (fun k9 h9 => (congrFun ((m_14.2 211 _ sX_211 (dk_dq rfl)).1.trans ((m_4.2 211 _ sX_211 (dk_dq rfl)).1.trans (m_1.2 211 _ sX_211 (dk_dq rfl)).1)) k9).trans (hkd k9 h9)) (fun k9 h9 => (congrFun ((m_14.2 213 _ sX_213 (dk_dq rfl)).1.trans ((m_4.2 213 _ sX_213 (dk_dq rfl)).1.trans (m_1.2 213 _ sX_213 (dk_dq rfl)).1)) k9).trans (hvl k9 h9)) I_14 H.size) (cwV 1 hts (bw_V wB_152 wB_153 wB_154 wB_24 wB_151) rfl rfl rfl (by decide +kernel) ⟨by dsimp only; omega, by dsimp only; omega⟩) (dg_preV sX_209 rfl K ST hP hS hA1 hA) rfl rfl hl.1 rfl (lv_room (Nat.le_of_ble_eq_true rfl)) dX6_readPair_25 ⟨Nat.le_of_ble_eq_true rfl, Nat.le_of_ble_eq_true rfl⟩) (fun x_24 S_25 hw_25 H locs hP hS => ?_)
          obtain ⟨I_25, m_25, w_25_0, w_25_1, -⟩ := hw_25
          have M_25 := dg_sm.tr M_14 m_25 (dk_dq rfl) (dk_dq rfl)
          have hz_26 : (44 : Int32).toInt = 44 := by decide +kernel
          have w_25_0 : 0 ≤ (x_24).toInt ∧ (x_24).toInt ≤ 1 := w_25_0
          obtain ⟨y_27, f_y_27, w_25_1⟩ := w_25_1
          have w_25_1 : (y_27).toInt ≤ (en).toInt ∧ g_ans x_24 (g_tk kd vl ((44 : Int32)).toInt (y_15 : Int32).toNatClampNeg) (y_27 : Int32).toNatClampNeg := w_25_1
          have b_y_27 : 0 ≤ (y_27).toInt ∧ (y_27).toInt ≤ 1600 := dg_I.intb (lo := 0) (hi := 1600) I_25 sX_209 (by decide +kernel) f_y_27
          refine lv_if_eq (tgt := 54) hx hb dX6_readPair_28 (dk_dq rfl) (fun c_28 => ?_) (fun c_28 => ?_)
          · as_aux_lemma =>
              have jc_28 := dk_eqc (k := 0) (by decide +kernel) c_28
              have qw_25_1 : g_tk kd vl 44 (y_15 : Int32).toNatClampNeg = none := by have h9 := w_25_1.2.2 (by omega); rw [show (44 : Int32).toInt = 44 from by decide +kernel] at h9; exact h9
              have qw_25_1s := g_tk_none qw_25_1
              refine lv_iconst (v := 0) hx hb dX6_readPair_54 (by decide +kernel) ?_
              refine lv_istore_n (lv' := [(3, .int 0), (0, .ref (o + 209)), (1, .int dp), (2, .int a2)]) hx hb dX6_readPair_55 rfl hl (dk_dq rfl) rfl (fun ls hl => ?_)
              refine lv_aload_n hx hb dX6_readPair_56 rfl (lv_at hl 1 rfl) ?_
              refine lv_iload_n hx hb dX6_readPair_57 rfl (lv_at hl 3 rfl) ?_
              refine dg_callv hS hA1 hA (va_runV (As := [.int a2]) (rest := []) F (c_rd_put l g D o S_25 a2 en S0 d0 gd hk_gd (((m_25.1 209 3 _ sX_209 (dk_dq rfl)).trans ((m_14.1 209 3 _ sX_209 (dk_dq rfl)).trans ((m_4.1 209 3 _ sX_209 (dk_dq rfl)).trans (m_1.1 209 3 _ sX_209 (dk_dq rfl))))).trans f_gd) y_27 f_y_27 (by omega) y_16 ((m_25.1 209 7 _ sX_209 (dk_dq rfl)).trans f_y_16) (by omega) ke ((congrFun ((m_25.2 211 _ sX_211 (dk_dq rfl)).1.trans ((m_14.2 211 _ sX_211 (dk_dq rfl)).1.trans ((m_4.2 211 _ sX_211 (dk_dq rfl)).1.trans (m_1.2 211 _ sX_211 (dk_dq rfl)).1))) _).trans f_ke) (by omega) (by omega) hd0 (G9X.keep w_14_3 m_25 (dk_dq rfl)) I_25 H.size) (cwV 1 hts (bw_V wB_96 wB_97 wB_98 wB_24 wB_95) rfl rfl rfl (by decide +kernel) ⟨by dsimp only; omega, by dsimp only; omega⟩) (dg_preV sX_209 rfl K ST hP hS hA1 hA) rfl rfl hl.1 rfl (lv_room (Nat.le_of_ble_eq_true rfl)) dX6_readPair_58 ⟨Nat.le_of_ble_eq_true rfl, Nat.le_of_ble_eq_true rfl⟩) (fun S_29 hw_29 H locs hP hS => ?_)
              obtain ⟨I_29, m_29, w_29_0, w_29_1, w_29_2, -⟩ := hw_29
              have M_29 := dg_sm.tr M_25 m_29 (dk_dq rfl) (dk_dq rfl)
              replace w_29_0 : m_hid ((y_16).toInt < 1600 → q_as gd S_25 S_29 y_16 [(a2).toInt]) := w_29_0
              obtain ⟨y_30, f_y_30, w_29_1⟩ := w_29_1
              have w_29_1 : (y_16).toInt < 1600 → (y_30).toInt = (y_16).toInt + 1 := w_29_1
              have b_y_30 : 0 ≤ (y_30).toInt ∧ (y_30).toInt ≤ 1600 := dg_I.intb (lo := 0) (hi := 1600) I_29 sX_209 (by decide +kernel) f_y_30
              refine lv_iload_n hx hb dX6_readPair_61 rfl (lv_at hl 0 rfl) ?_
              have hz_31 : (0 : Int32).toInt = 0 := by decide +kernel
              have hz_32 : (0 : Int32).toInt = 0 := by decide +kernel
              have hz_33 : (0 : Int32).toInt = 0 := by decide +kernel
              have hz_34 : (0 : Int32).toInt = 0 := by decide +kernel
              refine W.widen (k := 0) (n := 0) (Nat.le_of_ble_eq_true rfl) (Nat.le_of_ble_eq_true rfl) ?_
              exact dg_iret hx hb hr hlocks (by decide +kernel) hP hS ⟨I_29, M_29, (by decide +kernel), (m_hid.mk (fun q9 => absurd q9 (by omega))), ⟨y_27, y_30, ((m_29.1 209 4 _ sX_209 (dk_dq rfl)).trans f_y_27), f_y_30, ⟨⟨by omega, by omega⟩, g_ans.n (by omega) (by simp [x_prs, x_pair, g_tk, nq_y_2, qw_4_1s, nq_y_5, qw_14_2, qw_25_1s])⟩⟩, w_29_2, trivial⟩ dX6_readPair_62
          · as_aux_lemma =>
              have jc_28 := dk_neqc (k := 0) (by decide +kernel) c_28
              have qw_25_1 : g_tk kd vl 44 (y_15 : Int32).toNatClampNeg = some (y_27 : Int32).toNatClampNeg := by have h9 := w_25_1.2.1 (by omega); rw [show (44 : Int32).toInt = 44 from by decide +kernel] at h9; exact h9
              have qw_25_1s := (g_tk_some qw_25_1).1
              have nq_y_27 : (y_27 : Int32).toNatClampNeg = (y_15 : Int32).toNatClampNeg + 1 := by have h9 := (g_tk_some qw_25_1).2; omega
              have ni_y_27 : (y_27).toInt = (y_15).toInt + 1 := by have h8 := dk_clN y_27; have h9 := dk_clN y_15; omega
              refine lv_aload_n hx hb dX6_readPair_31 rfl (lv_at hl 0 rfl) ?_
              refine lv_iload_n hx hb dX6_readPair_32 rfl (lv_at hl 1 rfl) ?_
              refine lv_iconst (v := 1) hx hb dX6_readPair_33 (by decide +kernel) ?_
              refine lv_iadd hx hb dX6_readPair_34 ?_
              refine dk_top (y := dq) hdq ?_
              refine dg_calli hS hA1 hA (va_runV (As := [.int dq]) (rest := []) F (hLS l g D o S_25 en kd vl S0 d0 gd hk_gd (((m_25.1 209 3 _ sX_209 (dk_dq rfl)).trans ((m_14.1 209 3 _ sX_209 (dk_dq rfl)).trans ((m_4.1 209 3 _ sX_209 (dk_dq rfl)).trans (m_1.1 209 3 _ sX_209 (dk_dq rfl))))).trans f_gd) y_27 f_y_27 (by omega) ru (((m_25.1 209 6 _ sX_209 (dk_dq rfl)).trans ((m_14.1 209 6 _ sX_209 (dk_dq rfl)).trans ((m_4.1 209 6 _ sX_209 (dk_dq rfl)).trans (m_1.1 209 6 _ sX_209 (dk_dq rfl))))).trans f_ru) (by omega) y_16 ((m_25.1 209 7 _ sX_209 (dk_dq rfl)).trans f_y_16) (by omega) ke ((congrFun ((m_25.2 211 _ sX_211 (dk_dq rfl)).1.trans ((m_14.2 211 _ sX_211 (dk_dq rfl)).1.trans ((m_4.2 211 _ sX_211 (dk_dq rfl)).1.trans (m_1.2 211 _ sX_211 (dk_dq rfl)).1))) _).trans f_ke) (by omega) (by omega) (fun k9 h9 => (congrFun ((m_25.2 211 _ sX_211 (dk_dq rfl)).1.trans ((m_14.2 211 _ sX_211 (dk_dq rfl)).1.trans ((m_4.2 211 _ sX_211 (dk_dq rfl)).1.trans (m_1.2 211 _ sX_211 (dk_dq rfl)).1))) k9).trans (hkd k9 h9)) (fun k9 h9 => (congrFun ((m_25.2 213 _ sX_213 (dk_dq rfl)).1.trans ((m_14.2 213 _ sX_213 (dk_dq rfl)).1.trans ((m_4.2 213 _ sX_213 (dk_dq rfl)).1.trans (m_1.2 213 _ sX_213 (dk_dq rfl)).1))) k9).trans (hvl k9 h9)) (by omega) hd0 (G9X.keep w_14_3 m_25 (dk_dq rfl)) I_25 H.size) (cwV 1 hts (bw_V wB_128 wB_129 wB_130 wB_24 wB_127) rfl rfl rfl (by decide +kernel) ⟨by dsimp only; omega, by dsimp only; omega⟩) (dg_preV sX_209 rfl K ST hP hS hA1 hA) rfl rfl hl.1 rfl (lv_room (Nat.le_of_ble_eq_true rfl)) dX6_readPair_35 ⟨Nat.le_of_ble_eq_true rfl, Nat.le_of_ble_eq_true rfl⟩) (fun x_35 S_36 hw_36 H locs hP hS => ?_)
              obtain ⟨I_36, m_36, w_36_0, w_36_1, w_36_2, w_36_3, -⟩ := hw_36
              have M_36 := dg_sm.tr M_25 m_36 (dk_dq rfl) (dk_dq rfl)
              have w_36_0 : 0 ≤ (x_35).toInt ∧ (x_35).toInt ≤ 1 := w_36_0
              replace w_36_1 : m_hid ((x_35).toInt = 1 → q_as gd S_25 S_36 y_16 ((d_lv kd vl (ru).toInt (jl + 1)).1 (y_27 : Int32).toNatClampNeg)) := w_36_1
              have ap_36 : m_hid ((x_35).toInt = 1 → q_as gd S S_36 sc ((d_lv kd vl (ru).toInt (jl + 1)).1 ((n0 : Int32).toNatClampNeg + 2) ++ ((d_lv kd vl (ru).toInt (jl + 1)).1 ((y_15 : Int32).toNatClampNeg + 1)))) := m_hid.mk (fun q9 => (q_as.tr (ap_14.out (by omega)) (m_25.1 209 7 _ sX_209 (dk_dq rfl)) (m_25.2 (gd + 9) _ (rX_9 gd hk_gd) (dk_dq rfl)).1 ((m_25.1 209 7 _ sX_209 (dk_dq rfl)).trans f_y_16) (by have h9 := w_36_1.out q9; rw [nq_y_27] at h9; exact h9)))
              obtain ⟨y_37, y_38, f_y_37, f_y_38, w_36_2⟩ := w_36_2
              have w_36_2 : ((y_37).toInt ≤ (en).toInt ∧ ((x_35).toInt = 1 → ((y_16).toInt + 1 ≤ (y_38).toInt ∧ (y_38).toInt - (y_16).toInt ≤ (y_37).toInt - (y_27).toInt))) ∧ g_ans x_35 ((x_lv kd vl (ru).toInt (jl + 1)).1 (y_27 : Int32).toNatClampNeg) (y_37 : Int32).toNatClampNeg := w_36_2
              have b_y_37 : 0 ≤ (y_37).toInt ∧ (y_37).toInt ≤ 1600 := dg_I.intb (lo := 0) (hi := 1600) I_36 sX_209 (by decide +kernel) f_y_37
              have b_y_38 : 0 ≤ (y_38).toInt ∧ (y_38).toInt ≤ 1600 := dg_I.intb (lo := 0) (hi := 1600) I_36 sX_209 (by decide +kernel) f_y_38
              refine lv_if_eq (tgt := 54) hx hb dX6_readPair_38 (dk_dq rfl) (fun c_39 => ?_) (fun c_39 => ?_)
              · as_aux_lemma =>
                  have jc_39 := dk_eqc (k := 0) (by decide +kernel) c_39
                  have qw_36_2 : (x_lv kd vl (ru).toInt (jl + 1)).1 ((y_15 : Int32).toNatClampNeg + 1) = none := by have h9 := w_36_2.2.2 (by omega); rw [nq_y_27] at h9; exact h9
                  refine lv_iconst (v := 0) hx hb dX6_readPair_54 (by decide +kernel) ?_
                  refine lv_istore_n (lv' := [(3, .int 0), (0, .ref (o + 209)), (1, .int dp), (2, .int a2)]) hx hb dX6_readPair_55 rfl hl (dk_dq rfl) rfl (fun ls hl => ?_)
                  refine lv_aload_n hx hb dX6_readPair_56 rfl (lv_at hl 1 rfl) ?_
                  refine lv_iload_n hx hb dX6_readPair_57 rfl (lv_at hl 3 rfl) ?_
                  refine dg_callv hS hA1 hA (va_runV (As := [.int a2]) (rest := []) F (c_rd_put l g D o S_36 a2 en S0 d0 gd hk_gd (((m_36.1 209 3 _ sX_209 (dk_dq rfl)).trans ((m_25.1 209 3 _ sX_209 (dk_dq rfl)).trans ((m_14.1 209 3 _ sX_209 (dk_dq rfl)).trans ((m_4.1 209 3 _ sX_209 (dk_dq rfl)).trans (m_1.1 209 3 _ sX_209 (dk_dq rfl)))))).trans f_gd) y_37 f_y_37 (by omega) y_38 f_y_38 (by omega) ke ((congrFun ((m_36.2 211 _ sX_211 (dk_dq rfl)).1.trans ((m_25.2 211 _ sX_211 (dk_dq rfl)).1.trans ((m_14.2 211 _ sX_211 (dk_dq rfl)).1.trans ((m_4.2 211 _ sX_211 (dk_dq rfl)).1.trans (m_1.2 211 _ sX_211 (dk_dq rfl)).1)))) _).trans f_ke) (by omega) (by omega) hd0 w_36_3 I_36 H.size) (cwV 1 hts (bw_V wB_96 wB_97 wB_98 wB_24 wB_95) rfl rfl rfl (by decide +kernel) ⟨by dsimp only; omega, by dsimp only; omega⟩) (dg_preV sX_209 rfl K ST hP hS hA1 hA) rfl rfl hl.1 rfl (lv_room (Nat.le_of_ble_eq_true rfl)) dX6_readPair_58 ⟨Nat.le_of_ble_eq_true rfl, Nat.le_of_ble_eq_true rfl⟩) (fun S_40 hw_40 H locs hP hS => ?_)
                  obtain ⟨I_40, m_40, w_40_0, w_40_1, w_40_2, -⟩ := hw_40
                  have M_40 := dg_sm.tr M_36 m_40 (dk_dq rfl) (dk_dq rfl)
                  replace w_40_0 : m_hid ((y_38).toInt < 1600 → q_as gd S_36 S_40 y_38 [(a2).toInt]) := w_40_0
                  obtain ⟨y_41, f_y_41, w_40_1⟩ := w_40_1
                  have w_40_1 : (y_38).toInt < 1600 → (y_41).toInt = (y_38).toInt + 1 := w_40_1
                  have b_y_41 : 0 ≤ (y_41).toInt ∧ (y_41).toInt ≤ 1600 := dg_I.intb (lo := 0) (hi := 1600) I_40 sX_209 (by decide +kernel) f_y_41
                  refine lv_iload_n hx hb dX6_readPair_61 rfl (lv_at hl 0 rfl) ?_
                  have hz_42 : (0 : Int32).toInt = 0 := by decide +kernel
                  have hz_43 : (0 : Int32).toInt = 0 := by decide +kernel
                  have hz_44 : (0 : Int32).toInt = 0 := by decide +kernel
                  have hz_45 : (0 : Int32).toInt = 0 := by decide +kernel
                  refine W.widen (k := 0) (n := 0) (Nat.le_of_ble_eq_true rfl) (Nat.le_of_ble_eq_true rfl) ?_
                  exact dg_iret hx hb hr hlocks (by decide +kernel) hP hS ⟨I_40, M_40, (by decide +kernel), (m_hid.mk (fun q9 => absurd q9 (by omega))), ⟨y_37, y_41, ((m_40.1 209 4 _ sX_209 (dk_dq rfl)).trans f_y_37), f_y_41, ⟨⟨by omega, by omega⟩, g_ans.n (by omega) (by simp [x_prs, x_pair, g_tk, nq_y_2, qw_4_1s, nq_y_5, qw_14_2, qw_25_1s, nq_y_27, qw_36_2])⟩⟩, w_40_2, trivial⟩ dX6_readPair_62
              · as_aux_lemma =>
                  have jc_39 := dk_neqc (k := 0) (by decide +kernel) c_39
                  have qw_36_2 : (x_lv kd vl (ru).toInt (jl + 1)).1 ((y_15 : Int32).toNatClampNeg + 1) = some (y_37 : Int32).toNatClampNeg := by have h9 := w_36_2.2.1 (by omega); rw [nq_y_27] at h9; exact h9
                  refine lv_aload_n hx hb dX6_readPair_41 rfl (lv_at hl 0 rfl) ?_
                  refine lv_bipush (v := 41) hx hb dX6_readPair_42 (by decide +kernel) ?_
                  refine dg_calli hS hA1 hA (va_runV (As := [.int 41]) (rest := []) F (c_rd_takeSign l g D o S_36 41 en kd vl y_37 f_y_37 (by omega) ke ((congrFun ((m_36.2 211 _ sX_211 (dk_dq rfl)).1.trans ((m_25.2 211 _ sX_211 (dk_dq rfl)).1.trans ((m_14.2 211 _ sX_211 (dk_dq rfl)).1.trans ((m_4.2 211 _ sX_211 (dk_dq rfl)).1.trans (m_1.2 211 _ sX_211 (dk_dq rfl)).1)))) _).trans f_ke) (by omega) (by omega) (fun k9 h9 => (congrFun ((m_36.2 211 _ sX_211 (dk_dq rfl)).1.trans ((m_25.2 211 _ sX_211 (dk_dq rfl)).1.trans ((m_14.2 211 _ sX_211 (dk_dq rfl)).1.trans ((m_4.2 211 _ sX_211 (dk_dq rfl)).1.trans (m_1.2 211 _ sX_211 (dk_dq rfl)).1)))) k9).trans (hkd k9 h9)) (fun k9 h9 => (congrFun ((m_36.2 213 _ sX_213 (dk_dq rfl)).1.trans ((m_25.2 213 _ sX_213 (dk_dq rfl)).1.trans ((m_14.2 213 _ sX_213 (dk_dq rfl)).1.trans ((m_4.2 213 _ sX_213 (dk_dq rfl)).1.trans (m_1.2 213 _ sX_213 (dk_dq rfl)).1)))) k9).trans (hvl k9 h9)) I_36 H.size) (cwV 1 hts (bw_V wB_152 wB_153 wB_154 wB_24 wB_151) rfl rfl rfl (by decide +kernel) ⟨by dsimp only; omega, by dsimp only; omega⟩) (dg_preV sX_209 rfl K ST hP hS hA1 hA) rfl rfl hl.1 rfl (lv_room (Nat.le_of_ble_eq_true rfl)) dX6_readPair_44 ⟨Nat.le_of_ble_eq_true rfl, Nat.le_of_ble_eq_true rfl⟩) (fun x_46 S_47 hw_47 H locs hP hS => ?_)
                  obtain ⟨I_47, m_47, w_47_0, w_47_1, -⟩ := hw_47
                  have M_47 := dg_sm.tr M_36 m_47 (dk_dq rfl) (dk_dq rfl)
                  have hz_48 : (41 : Int32).toInt = 41 := by decide +kernel
                  have w_47_0 : 0 ≤ (x_46).toInt ∧ (x_46).toInt ≤ 1 := w_47_0
                  obtain ⟨y_49, f_y_49, w_47_1⟩ := w_47_1
                  have w_47_1 : (y_49).toInt ≤ (en).toInt ∧ g_ans x_46 (g_tk kd vl ((41 : Int32)).toInt (y_37 : Int32).toNatClampNeg) (y_49 : Int32).toNatClampNeg := w_47_1
                  have b_y_49 : 0 ≤ (y_49).toInt ∧ (y_49).toInt ≤ 1600 := dg_I.intb (lo := 0) (hi := 1600) I_47 sX_209 (by decide +kernel) f_y_49
                  refine lv_if_eq (tgt := 54) hx hb dX6_readPair_47 (dk_dq rfl) (fun c_50 => ?_) (fun c_50 => ?_)
                  · as_aux_lemma =>
                      have jc_50 := dk_eqc (k := 0) (by decide +kernel) c_50
                      have qw_47_1 : g_tk kd vl 41 (y_37 : Int32).toNatClampNeg = none := by have h9 := w_47_1.2.2 (by omega); rw [show (41 : Int32).toInt = 41 from by decide +kernel] at h9; exact h9
                      have qw_47_1s := g_tk_none qw_47_1
                      refine lv_iconst (v := 0) hx hb dX6_readPair_54 (by decide +kernel) ?_
                      refine lv_istore_n (lv' := [(3, .int 0), (0, .ref (o + 209)), (1, .int dp), (2, .int a2)]) hx hb dX6_readPair_55 rfl hl (dk_dq rfl) rfl (fun ls hl => ?_)
                      refine lv_aload_n hx hb dX6_readPair_56 rfl (lv_at hl 1 rfl) ?_
                      refine lv_iload_n hx hb dX6_readPair_57 rfl (lv_at hl 3 rfl) ?_
                      refine dg_callv hS hA1 hA (va_runV (As := [.int a2]) (rest := []) F (c_rd_put l g D o S_47 a2 en S0 d0 gd hk_gd (((m_47.1 209 3 _ sX_209 (dk_dq rfl)).trans ((m_36.1 209 3 _ sX_209 (dk_dq rfl)).trans ((m_25.1 209 3 _ sX_209 (dk_dq rfl)).trans ((m_14.1 209 3 _ sX_209 (dk_dq rfl)).trans ((m_4.1 209 3 _ sX_209 (dk_dq rfl)).trans (m_1.1 209 3 _ sX_209 (dk_dq rfl))))))).trans f_gd) y_49 f_y_49 (by omega) y_38 ((m_47.1 209 7 _ sX_209 (dk_dq rfl)).trans f_y_38) (by omega) ke ((congrFun ((m_47.2 211 _ sX_211 (dk_dq rfl)).1.trans ((m_36.2 211 _ sX_211 (dk_dq rfl)).1.trans ((m_25.2 211 _ sX_211 (dk_dq rfl)).1.trans ((m_14.2 211 _ sX_211 (dk_dq rfl)).1.trans ((m_4.2 211 _ sX_211 (dk_dq rfl)).1.trans (m_1.2 211 _ sX_211 (dk_dq rfl)).1))))) _).trans f_ke) (by omega) (by omega) hd0 (G9X.keep w_36_3 m_47 (dk_dq rfl)) I_47 H.size) (cwV 1 hts (bw_V wB_96 wB_97 wB_98 wB_24 wB_95) rfl rfl rfl (by decide +kernel) ⟨by dsimp only; omega, by dsimp only; omega⟩) (dg_preV sX_209 rfl K ST hP hS hA1 hA) rfl rfl hl.1 rfl (lv_room (Nat.le_of_ble_eq_true rfl)) dX6_readPair_58 ⟨Nat.le_of_ble_eq_true rfl, Nat.le_of_ble_eq_true rfl⟩) (fun S_51 hw_51 H locs hP hS => ?_)
                      obtain ⟨I_51, m_51, w_51_0, w_51_1, w_51_2, -⟩ := hw_51
                      have M_51 := dg_sm.tr M_47 m_51 (dk_dq rfl) (dk_dq rfl)
                      replace w_51_0 : m_hid ((y_38).toInt < 1600 → q_as gd S_47 S_51 y_38 [(a2).toInt]) := w_51_0
                      obtain ⟨y_52, f_y_52, w_51_1⟩ := w_51_1
                      have w_51_1 : (y_38).toInt < 1600 → (y_52).toInt = (y_38).toInt + 1 := w_51_1
                      have b_y_52 : 0 ≤ (y_52).toInt ∧ (y_52).toInt ≤ 1600 := dg_I.intb (lo := 0) (hi := 1600) I_51 sX_209 (by decide +kernel) f_y_52
                      refine lv_iload_n hx hb dX6_readPair_61 rfl (lv_at hl 0 rfl) ?_
                      have hz_53 : (0 : Int32).toInt = 0 := by decide +kernel
                      have hz_54 : (0 : Int32).toInt = 0 := by decide +kernel
                      have hz_55 : (0 : Int32).toInt = 0 := by decide +kernel
                      have hz_56 : (0 : Int32).toInt = 0 := by decide +kernel
                      refine W.widen (k := 0) (n := 0) (Nat.le_of_ble_eq_true rfl) (Nat.le_of_ble_eq_true rfl) ?_
                      exact dg_iret hx hb hr hlocks (by decide +kernel) hP hS ⟨I_51, M_51, (by decide +kernel), (m_hid.mk (fun q9 => absurd q9 (by omega))), ⟨y_49, y_52, ((m_51.1 209 4 _ sX_209 (dk_dq rfl)).trans f_y_49), f_y_52, ⟨⟨by omega, by omega⟩, g_ans.n (by omega) (by simp [x_prs, x_pair, g_tk, nq_y_2, qw_4_1s, nq_y_5, qw_14_2, qw_25_1s, nq_y_27, qw_36_2, qw_47_1s])⟩⟩, w_51_2, trivial⟩ dX6_readPair_62
                  · as_aux_lemma =>
                      have jc_50 := dk_neqc (k := 0) (by decide +kernel) c_50
                      have qw_47_1 : g_tk kd vl 41 (y_37 : Int32).toNatClampNeg = some (y_49 : Int32).toNatClampNeg := by have h9 := w_47_1.2.1 (by omega); rw [show (41 : Int32).toInt = 41 from by decide +kernel] at h9; exact h9
                      have qw_47_1s := (g_tk_some qw_47_1).1
                      have nq_y_49 : (y_49 : Int32).toNatClampNeg = (y_37 : Int32).toNatClampNeg + 1 := by have h9 := (g_tk_some qw_47_1).2; omega
                      have ni_y_49 : (y_49).toInt = (y_37).toInt + 1 := by have h8 := dk_clN y_49; have h9 := dk_clN y_37; omega
                      refine lv_iconst (v := 1) hx hb dX6_readPair_50 (by decide +kernel) ?_
                      refine lv_goto (tgt := 55) hx hb dX6_readPair_51 (dk_dq rfl) ?_
                      refine lv_istore_n (lv' := [(3, .int 1), (0, .ref (o + 209)), (1, .int dp), (2, .int a2)]) hx hb dX6_readPair_55 rfl hl (dk_dq rfl) rfl (fun ls hl => ?_)
                      refine lv_aload_n hx hb dX6_readPair_56 rfl (lv_at hl 1 rfl) ?_
                      refine lv_iload_n hx hb dX6_readPair_57 rfl (lv_at hl 3 rfl) ?_
                      refine dg_callv hS hA1 hA (va_runV (As := [.int a2]) (rest := []) F (c_rd_put l g D o S_47 a2 en S0 d0 gd hk_gd (((m_47.1 209 3 _ sX_209 (dk_dq rfl)).trans ((m_36.1 209 3 _ sX_209 (dk_dq rfl)).trans ((m_25.1 209 3 _ sX_209 (dk_dq rfl)).trans ((m_14.1 209 3 _ sX_209 (dk_dq rfl)).trans ((m_4.1 209 3 _ sX_209 (dk_dq rfl)).trans (m_1.1 209 3 _ sX_209 (dk_dq rfl))))))).trans f_gd) y_49 f_y_49 (by omega) y_38 ((m_47.1 209 7 _ sX_209 (dk_dq rfl)).trans f_y_38) (by omega) ke ((congrFun ((m_47.2 211 _ sX_211 (dk_dq rfl)).1.trans ((m_36.2 211 _ sX_211 (dk_dq rfl)).1.trans ((m_25.2 211 _ sX_211 (dk_dq rfl)).1.trans ((m_14.2 211 _ sX_211 (dk_dq rfl)).1.trans ((m_4.2 211 _ sX_211 (dk_dq rfl)).1.trans (m_1.2 211 _ sX_211 (dk_dq rfl)).1))))) _).trans f_ke) (by omega) (by omega) hd0 (G9X.keep w_36_3 m_47 (dk_dq rfl)) I_47 H.size) (cwV 1 hts (bw_V wB_96 wB_97 wB_98 wB_24 wB_95) rfl rfl rfl (by decide +kernel) ⟨by dsimp only; omega, by dsimp only; omega⟩) (dg_preV sX_209 rfl K ST hP hS hA1 hA) rfl rfl hl.1 rfl (lv_room (Nat.le_of_ble_eq_true rfl)) dX6_readPair_58 ⟨Nat.le_of_ble_eq_true rfl, Nat.le_of_ble_eq_true rfl⟩) (fun S_57 hw_57 H locs hP hS => ?_)
                      obtain ⟨I_57, m_57, w_57_0, w_57_1, w_57_2, -⟩ := hw_57
                      have M_57 := dg_sm.tr M_47 m_57 (dk_dq rfl) (dk_dq rfl)
                      replace w_57_0 : m_hid ((y_38).toInt < 1600 → q_as gd S_47 S_57 y_38 [(a2).toInt]) := w_57_0
                      have ap_57 : q_as gd S S_57 sc ((d_lv kd vl (ru).toInt (jl + 1)).1 ((n0 : Int32).toNatClampNeg + 2) ++ ((d_lv kd vl (ru).toInt (jl + 1)).1 ((y_15 : Int32).toNatClampNeg + 1)) ++ [(a2).toInt]) := (q_as.tr (ap_36.out (by omega)) (m_47.1 209 7 _ sX_209 (dk_dq rfl)) (m_47.2 (gd + 9) _ (rX_9 gd hk_gd) (dk_dq rfl)).1 ((m_47.1 209 7 _ sX_209 (dk_dq rfl)).trans f_y_38) (by have h9 := w_57_0.out (by omega); exact h9))
                      obtain ⟨y_58, f_y_58, w_57_1⟩ := w_57_1
                      have w_57_1 : (y_38).toInt < 1600 → (y_58).toInt = (y_38).toInt + 1 := w_57_1
                      have b_y_58 : 0 ≤ (y_58).toInt ∧ (y_58).toInt ≤ 1600 := dg_I.intb (lo := 0) (hi := 1600) I_57 sX_209 (by decide +kernel) f_y_58
                      refine lv_iload_n hx hb dX6_readPair_61 rfl (lv_at hl 0 rfl) ?_
                      have hz_59 : (1 : Int32).toInt = 1 := by decide +kernel
                      have hz_60 : (1 : Int32).toInt = 1 := by decide +kernel
                      have hz_61 : (1 : Int32).toInt = 1 := by decide +kernel
                      have hz_62 : (1 : Int32).toInt = 1 := by decide +kernel
                      refine W.widen (k := 0) (n := 0) (Nat.le_of_ble_eq_true rfl) (Nat.le_of_ble_eq_true rfl) ?_
                      exact dg_iret hx hb hr hlocks (by decide +kernel) hP hS ⟨I_57, M_57, (by decide +kernel), (m_hid.mk (fun q9 => q_as.to ap_57 (by simp [d_pair, nq_y_2, qw_4_1s, nq_y_5, qw_14_2, qw_25_1s, nq_y_27, qw_36_2, qw_47_1s, nq_y_49]))), ⟨y_49, y_58, ((m_57.1 209 4 _ sX_209 (dk_dq rfl)).trans f_y_49), f_y_58, ⟨⟨by omega, by omega⟩, g_ans.y (by omega) (by simp [x_prs, x_pair, g_tk, nq_y_2, qw_4_1s, nq_y_5, qw_14_2, qw_25_1s, nq_y_27, qw_36_2, qw_47_1s, nq_y_49])⟩⟩, w_57_2, trivial⟩ dX6_readPair_62
set_option maxHeartbeats 8000000 in
set_option maxRecDepth 100000 in
theorem cg_readPart (jl : Nat) (dp dq : Int32) (hdp : dp < 7) (hdq : dp + 1 = dq) (hLT : lvT dq jl) (hLS : lvS dq jl) (hLF : lvF dq jl) (l : Launch) (g : Nat → ClassId) (D : va_G) (o : Nat) (S : dg_S) (en : Int32) (kd : Nat → Int32) (vl : Nat → Int32) (S0 : dg_S) (d0 : Nat) (gd : Nat) (hk_gd : rX gd) (f_gd : S.1 209 3 = .ref (o + gd)) (n0 : Int32) (f_n0 : S.1 209 4 = .int n0) (b_n0 : 0 ≤ (n0).toInt ∧ (n0).toInt ≤ 1600) (ru : Int32) (f_ru : S.1 209 6 = .int ru) (b_ru : 0 ≤ (ru).toInt ∧ (ru).toInt ≤ 2) (sc : Int32) (f_sc : S.1 209 7 = .int sc) (b_sc : 0 ≤ (sc).toInt ∧ (sc).toInt ≤ 1600) (ke : Int32) (f_ke : S.2.1 211 (en : Int32).toNatClampNeg = ke) (b_ke : 0 ≤ (ke).toInt ∧ (ke).toInt ≤ 0) (hne : (n0).toInt ≤ (en).toInt ∧ (en).toInt ≤ 1600 ∧ 0 ≤ (en).toInt) (hkd : ∀ k9 : Nat, k9 ≤ (en : Int32).toNatClampNeg → S.2.1 211 k9 = kd k9) (hvl : ∀ k9 : Nat, k9 ≤ (en : Int32).toNatClampNeg → S.2.1 213 k9 = vl k9) (hsc : (sc).toInt ≤ (n0).toInt) (hd0 : d0 ≠ gd) (G9 : G9X S0 d0 S) (I : CX o S) (sz : Nat) : Met l yX6_readPart (bw yX6_readPart cX6_readPart 3 (some .boolean)) ({ frames := 8 * jl + 13, cells := 0, slots := 0, locals := 183 * jl + 302 } : Room) (dk_Pc g D (dg_w g shX o rfX S) sz [.ref (o + 209), .int dp]) (va_Qi (fun (r : Int32) S' => CX o S' ∧ dg_sm shX [(31, 0), (31, 1), (31, 4), (31, 7)] [28] S S' ∧ (0 ≤ (r).toInt ∧ (r).toInt ≤ 1) ∧ (m_hid ((r).toInt = 1 → q_as gd S S' sc (d_part kd vl (x_lv kd vl (ru).toInt (jl + 1)).1 (x_lv kd vl (ru).toInt (jl + 1)).2.1 (d_lv kd vl (ru).toInt (jl + 1)).1 (d_lv kd vl (ru).toInt (jl + 1)).2.1 (n0 : Int32).toNatClampNeg))) ∧ (∃ y9_4 y9_7 : Int32, S'.1 209 4 = .int y9_4 ∧ S'.1 209 7 = .int y9_7 ∧ (((y9_4).toInt ≤ (en).toInt ∧ ((r).toInt = 1 → ((sc).toInt + 1 ≤ (y9_7).toInt ∧ (y9_7).toInt - (sc).toInt ≤ (y9_4).toInt - (n0).toInt))) ∧ g_ans r (x_part kd vl (ru).toInt (x_lv kd vl (ru).toInt (jl + 1)).1 (x_lv kd vl (ru).toInt (jl + 1)).2.1 (n0 : Int32).toNatClampNeg) (y9_4 : Int32).toNatClampNeg)) ∧ G9X S0 d0 S' ∧ True) (dg_B g D shX o rfX) (dg_A o shX.length sz)) 0 0 (dg_A o shX.length sz) := by
  refine dg_met (cc := cX6_readPart) (maxL := 3) (ret := (some .boolean)) (dk_dq rfl) rfl (Nat.le_of_ble_eq_true rfl) ?_
  intro p e s m args below meth c A hAe harg hx hb hr hml hts hown hlocks hin hP K hS hA1 hA ST hsz ls hl
  rw [← hAe]
  have F : CallFix p m c cX6_readPart 3 s args (bw yX6_readPart cX6_readPart 3 (some .boolean)) RX6 := ⟨hx, hb, hml, hown, hts⟩
  have hl : lv_has ls 3 [(0, .ref (o + 209)), (1, .int dp)] := hl
  have M_0 : dg_sm shX [(31, 0), (31, 1), (31, 4), (31, 7)] [28] S S := dg_sm.rf
  refine lv_aload_n hx hb dX6_readPart_0 rfl (lv_at hl 0 rfl) ?_
  refine lv_bipush (v := 40) hx hb dX6_readPart_1 (by decide +kernel) ?_
  refine dg_calli hS hA1 hA (va_runV (As := [.int 40]) (rest := []) F (c_rd_isSign l g D o S 40 en kd vl n0 f_n0 (by omega) ke f_ke (by omega) (by omega) hkd hvl I s.heap.size) (cwV 1 hts (bw_V wB_34 wB_35 wB_36 wB_24 wB_33) rfl rfl rfl (by decide +kernel) ⟨by dsimp only; omega, by dsimp only; omega⟩) (dg_preV sX_209 rfl K ST hP hS hA1 hA) rfl rfl hl.1 rfl (lv_room (Nat.le_of_ble_eq_true rfl)) dX6_readPart_3 ⟨Nat.le_of_ble_eq_true rfl, Nat.le_of_ble_eq_true rfl⟩) (fun x_1 S_2 hw_2 H locs hP hS => ?_)
  rw [hw_2.1] at hP
  obtain ⟨hq_2, w_2_0, w_2_1, -⟩ := hw_2
  have hz_3 : (40 : Int32).toInt = 40 := by decide +kernel
  have w_2_0 : 0 ≤ (x_1).toInt ∧ (x_1).toInt ≤ 1 := w_2_0
  have w_2_1 : (x_1).toInt = 1 ↔ g_s kd vl ((40 : Int32)).toInt (n0 : Int32).toNatClampNeg = true := w_2_1
  refine lv_if_eq (tgt := 42) hx hb dX6_readPart_6 (dk_dq rfl) (fun c_4 => ?_) (fun c_4 => ?_)
  · as_aux_lemma =>
      have jc_4 := dk_eqc (k := 0) (by decide +kernel) c_4
      have qw_2_1 : g_s kd vl 40 (n0 : Int32).toNatClampNeg = false := by have h9 := g_iff_f w_2_1 (by omega); rw [show (40 : Int32).toInt = 40 from by decide +kernel] at h9; exact h9
      refine lv_aload_n hx hb dX6_readPart_42 rfl (lv_at hl 0 rfl) ?_
      refine lv_bipush (v := 20) hx hb dX6_readPart_43 (by decide +kernel) ?_
      refine dg_calli hS hA1 hA (va_runV (As := [.int 20]) (rest := []) F (c_rd_isOwn l g D o S 20 en kd vl n0 f_n0 (by omega) ke f_ke (by omega) (by omega) hkd hvl I H.size) (cwV 1 hts (bw_V wB_21 wB_22 wB_23 wB_24 wB_20) rfl rfl rfl (by decide +kernel) ⟨by dsimp only; omega, by dsimp only; omega⟩) (dg_preV sX_209 rfl K ST hP hS hA1 hA) rfl rfl hl.1 rfl (lv_room (Nat.le_of_ble_eq_true rfl)) dX6_readPart_45 ⟨Nat.le_of_ble_eq_true rfl, Nat.le_of_ble_eq_true rfl⟩) (fun x_5 S_6 hw_6 H locs hP hS => ?_)
      rw [hw_6.1] at hP
      obtain ⟨hq_6, w_6_0, w_6_1, -⟩ := hw_6
      have hz_7 : (20 : Int32).toInt = 20 := by decide +kernel
      have w_6_0 : 0 ≤ (x_5).toInt ∧ (x_5).toInt ≤ 1 := w_6_0
      have w_6_1 : (x_5).toInt = 1 ↔ g_o kd vl ((20 : Int32)).toInt (n0 : Int32).toNatClampNeg = true := w_6_1
      refine lv_if_eq (tgt := 57) hx hb dX6_readPart_48 (dk_dq rfl) (fun c_8 => ?_) (fun c_8 => ?_)
      · as_aux_lemma =>
          have jc_8 := dk_eqc (k := 0) (by decide +kernel) c_8
          have qw_6_1 : g_o kd vl 20 (n0 : Int32).toNatClampNeg = false := by have h9 := g_iff_f w_6_1 (by omega); rw [show (20 : Int32).toInt = 20 from by decide +kernel] at h9; exact h9
          refine lv_aload_n hx hb dX6_readPart_57 rfl (lv_at hl 0 rfl) ?_
          refine lv_bipush (v := 25) hx hb dX6_readPart_58 (by decide +kernel) ?_
          refine dg_calli hS hA1 hA (va_runV (As := [.int 25]) (rest := []) F (c_rd_isOwn l g D o S 25 en kd vl n0 f_n0 (by omega) ke f_ke (by omega) (by omega) hkd hvl I H.size) (cwV 1 hts (bw_V wB_21 wB_22 wB_23 wB_24 wB_20) rfl rfl rfl (by decide +kernel) ⟨by dsimp only; omega, by dsimp only; omega⟩) (dg_preV sX_209 rfl K ST hP hS hA1 hA) rfl rfl hl.1 rfl (lv_room (Nat.le_of_ble_eq_true rfl)) dX6_readPart_60 ⟨Nat.le_of_ble_eq_true rfl, Nat.le_of_ble_eq_true rfl⟩) (fun x_9 S_10 hw_10 H locs hP hS => ?_)
          rw [hw_10.1] at hP
          obtain ⟨hq_10, w_10_0, w_10_1, -⟩ := hw_10
          have hz_11 : (25 : Int32).toInt = 25 := by decide +kernel
          have w_10_0 : 0 ≤ (x_9).toInt ∧ (x_9).toInt ≤ 1 := w_10_0
          have w_10_1 : (x_9).toInt = 1 ↔ g_o kd vl ((25 : Int32)).toInt (n0 : Int32).toNatClampNeg = true := w_10_1
          refine lv_if_eq (tgt := 74) hx hb dX6_readPart_63 (dk_dq rfl) (fun c_12 => ?_) (fun c_12 => ?_)
          · as_aux_lemma =>
              have jc_12 := dk_eqc (k := 0) (by decide +kernel) c_12
              have qw_10_1 : g_o kd vl 25 (n0 : Int32).toNatClampNeg = false := by have h9 := g_iff_f w_10_1 (by omega); rw [show (25 : Int32).toInt = 25 from by decide +kernel] at h9; exact h9
              refine lv_aload_n hx hb dX6_readPart_74 rfl (lv_at hl 0 rfl) ?_
              refine lv_bipush (v := 26) hx hb dX6_readPart_75 (by decide +kernel) ?_
              refine dg_calli hS hA1 hA (va_runV (As := [.int 26]) (rest := []) F (c_rd_isOwn l g D o S 26 en kd vl n0 f_n0 (by omega) ke f_ke (by omega) (by omega) hkd hvl I H.size) (cwV 1 hts (bw_V wB_21 wB_22 wB_23 wB_24 wB_20) rfl rfl rfl (by decide +kernel) ⟨by dsimp only; omega, by dsimp only; omega⟩) (dg_preV sX_209 rfl K ST hP hS hA1 hA) rfl rfl hl.1 rfl (lv_room (Nat.le_of_ble_eq_true rfl)) dX6_readPart_77 ⟨Nat.le_of_ble_eq_true rfl, Nat.le_of_ble_eq_true rfl⟩) (fun x_13 S_14 hw_14 H locs hP hS => ?_)
              rw [hw_14.1] at hP
              obtain ⟨hq_14, w_14_0, w_14_1, -⟩ := hw_14
              have hz_15 : (26 : Int32).toInt = 26 := by decide +kernel
              have w_14_0 : 0 ≤ (x_13).toInt ∧ (x_13).toInt ≤ 1 := w_14_0
              have w_14_1 : (x_13).toInt = 1 ↔ g_o kd vl ((26 : Int32)).toInt (n0 : Int32).toNatClampNeg = true := w_14_1
              refine lv_if_eq (tgt := 91) hx hb dX6_readPart_80 (dk_dq rfl) (fun c_16 => ?_) (fun c_16 => ?_)
              · as_aux_lemma =>
                  have jc_16 := dk_eqc (k := 0) (by decide +kernel) c_16
                  have qw_14_1 : g_o kd vl 26 (n0 : Int32).toNatClampNeg = false := by have h9 := g_iff_f w_14_1 (by omega); rw [show (26 : Int32).toInt = 26 from by decide +kernel] at h9; exact h9
                  refine lv_aload_n hx hb dX6_readPart_91 rfl (lv_at hl 0 rfl) ?_
                  refine dg_get (C := RX6) (T := TX6) (N := 8) hx hb hts (fun w h => bw_mem (wU_X6 w h)) hown K hP sX_209 rfl 2 (dk_dq rfl) (hts _ (bw_mem wB_13)) (fun _ h9 => h9) (v := .ref (o + 210)) (show S.1 209 2 = .ref (o + 210) from dg_I.rel (d := 1) I sX_209 (by decide +kernel)) dX6_readPart_92 ?_
                  refine dg_get (C := RX9) (T := TX9) (N := 5) hx hb hts (fun w h => bw_mem (wU_X9 w h)) hown K hP sX_210 rfl 0 (dk_dq rfl) (hts _ (bw_mem wB_14)) (fun _ h9 => h9) (v := .ref (o + 211)) (show S.1 210 0 = .ref (o + 211) from dg_I.rel (d := 1) I sX_210 (by decide +kernel)) dX6_readPart_95 ?_
                  refine lv_aload_n hx hb dX6_readPart_98 rfl (lv_at hl 0 rfl) ?_
                  refine dg_get (C := RX6) (T := TX6) (N := 8) hx hb hts (fun w h => bw_mem (wU_X6 w h)) hown K hP sX_209 rfl 4 (dk_dq rfl) (hts _ (bw_mem wB_15)) (fun _ h9 => h9) (v := .int n0) f_n0 dX6_readPart_99 ?_
                  have hin_17 : vp_in n0 1601 := (dk_inv2 (by omega))
                  refine dg_iald hx hb K hP sX_211 hin_17 dX6_readPart_102 (fun x_18 ex_18 => ?_)
                  have hs_x_18 : (n0 : Int32).toInt = (en).toInt → (x_18).toInt = (ke).toInt := fun h => by have h9 := Int32.toInt_inj.mp h; rw [ex_18, h9]; exact congrArg Int32.toInt f_ke
                  have kx_18 : (kd (n0 : Int32).toNatClampNeg).toInt = (x_18).toInt := by rw [ex_18, hkd _ (by unfold Int32.toNatClampNeg; omega)]
                  refine lv_iconst (v := 3) hx hb dX6_readPart_103 (by decide +kernel) ?_
                  refine lv_icmp_ne (tgt := 129) hx hb dX6_readPart_104 (dk_dq rfl) (fun c_19 => ?_) (fun c_19 => ?_)
                  · as_aux_lemma =>
                      have jc_19 := dk_neqc (k := 3) (by decide +kernel) c_19
                      refine lv_aload_n hx hb dX6_readPart_129 rfl (lv_at hl 0 rfl) ?_
                      refine dg_calli hS hA1 hA (va_runV (As := []) (rest := []) F (c_rd_factStep l g D o S en kd vl n0 f_n0 (by omega) ru f_ru (by omega) ke f_ke (by omega) (by omega) hkd hvl I H.size) (cwV 0 hts (bw_V wB_100 wB_101 wB_102 wB_24 wB_99) rfl rfl rfl (by decide +kernel) ⟨by dsimp only; omega, by dsimp only; omega⟩) (dg_preV sX_209 rfl K ST hP hS hA1 hA) rfl rfl hl.1 rfl (lv_room (Nat.le_of_ble_eq_true rfl)) dX6_readPart_130 ⟨Nat.le_of_ble_eq_true rfl, Nat.le_of_ble_eq_true rfl⟩) (fun x_20 S_21 hw_21 H locs hP hS => ?_)
                      rw [hw_21.1] at hP
                      obtain ⟨hq_21, w_21_0, w_21_1, w_21_2, -⟩ := hw_21
                      have w_21_0 : (-6) ≤ (x_20).toInt ∧ (x_20).toInt ≤ 0 := w_21_0
                      have w_21_1 : m_hid ((x_20).toInt ≠ 0 → (x_20).toInt = d_fw kd vl ((n0 : Int32).toNatClampNeg)) := w_21_1
                      have w_21_2 : (x_20).toInt ≠ 0 ↔ g_fw kd vl (ru).toInt (n0 : Int32).toNatClampNeg = true := w_21_2
                      have v5_x_20 : m_hid ((x_20).toInt ≠ 0 → (x_20).toInt = d_fw kd vl ((n0 : Int32).toNatClampNeg)) := m_hid.mk (by have h9 := w_21_1.out; exact h9)
                      refine lv_istore_n (lv' := [(2, .int x_20), (0, .ref (o + 209)), (1, .int dp)]) hx hb dX6_readPart_133 rfl hl (dk_dq rfl) rfl (fun ls hl => ?_)
                      refine lv_iload_n hx hb dX6_readPart_134 rfl (lv_at hl 0 rfl) ?_
                      refine lv_if_ne (tgt := 144) hx hb dX6_readPart_135 (dk_dq rfl) (fun c_22 => ?_) (fun c_22 => ?_)
                      · as_aux_lemma =>
                          have jc_22 := dk_neqc (k := 0) (by decide +kernel) c_22
                          have qw_21_2 : g_fw kd vl (ru).toInt (n0 : Int32).toNatClampNeg = true := by have h9 := w_21_2.mp (by omega); exact h9
                          have u5_x_20 := m_hid.mk (v5_x_20.out (by omega))
                          have qkw_21_2 := (g_fw_iff.mp qw_21_2).1
                          refine lv_aload_n hx hb dX6_readPart_144 rfl (lv_at hl 1 rfl) ?_
                          refine lv_iload_n hx hb dX6_readPart_145 rfl (lv_at hl 0 rfl) ?_
                          refine dg_callv hS hA1 hA (va_runV (As := [.int x_20]) (rest := []) F (c_rd_put l g D o S x_20 en S0 d0 gd hk_gd f_gd n0 f_n0 (by omega) sc f_sc (by omega) ke f_ke (by omega) (by omega) hd0 G9 I H.size) (cwV 1 hts (bw_V wB_96 wB_97 wB_98 wB_24 wB_95) rfl rfl rfl (by decide +kernel) ⟨by dsimp only; omega, by dsimp only; omega⟩) (dg_preV sX_209 rfl K ST hP hS hA1 hA) rfl rfl hl.1 rfl (lv_room (Nat.le_of_ble_eq_true rfl)) dX6_readPart_146 ⟨Nat.le_of_ble_eq_true rfl, Nat.le_of_ble_eq_true rfl⟩) (fun S_23 hw_23 H locs hP hS => ?_)
                          obtain ⟨I_23, m_23, w_23_0, w_23_1, w_23_2, -⟩ := hw_23
                          have M_23 := dg_sm.tr M_0 m_23 (dk_dq rfl) (dk_dq rfl)
                          replace w_23_0 : m_hid ((sc).toInt < 1600 → q_as gd S S_23 sc [(x_20).toInt]) := w_23_0
                          have ap_23 : q_as gd S S_23 sc ([(x_20).toInt]) := (by have h9 := w_23_0.out (by omega); exact h9)
                          obtain ⟨y_24, f_y_24, w_23_1⟩ := w_23_1
                          have w_23_1 : (sc).toInt < 1600 → (y_24).toInt = (sc).toInt + 1 := w_23_1
                          have b_y_24 : 0 ≤ (y_24).toInt ∧ (y_24).toInt ≤ 1600 := dg_I.intb (lo := 0) (hi := 1600) I_23 sX_209 (by decide +kernel) f_y_24
                          refine lv_aload_n hx hb dX6_readPart_149 rfl (lv_at hl 1 rfl) ?_
                          refine dg_callv hS hA1 hA (va_runV (As := []) (rest := []) F (c_rd_pass l g D o S_23 en kd vl n0 ((m_23.1 209 4 _ sX_209 (dk_dq rfl)).trans f_n0) (by omega) ke ((congrFun (m_23.2 211 _ sX_211 (dk_dq rfl)).1 _).trans f_ke) (by omega) (by omega) (fun k9 h9 => (congrFun (m_23.2 211 _ sX_211 (dk_dq rfl)).1 k9).trans (hkd k9 h9)) (fun k9 h9 => (congrFun (m_23.2 213 _ sX_213 (dk_dq rfl)).1 k9).trans (hvl k9 h9)) I_23 H.size) (cwV 0 hts (bw_V wB_26 wB_27 wB_28 wB_24 wB_25) rfl rfl rfl (by decide +kernel) ⟨by dsimp only; omega, by dsimp only; omega⟩) (dg_preV sX_209 rfl K ST hP hS hA1 hA) rfl rfl hl.1 rfl (lv_room (Nat.le_of_ble_eq_true rfl)) dX6_readPart_150 ⟨Nat.le_of_ble_eq_true rfl, Nat.le_of_ble_eq_true rfl⟩) (fun S_25 hw_25 H locs hP hS => ?_)
                          obtain ⟨I_25, m_25, w_25_0, -⟩ := hw_25
                          have M_25 := dg_sm.tr M_23 m_25 (dk_dq rfl) (dk_dq rfl)
                          obtain ⟨y_26, f_y_26, w_25_0⟩ := w_25_0
                          have w_25_0 : (y_26).toInt ≤ (en).toInt ∧ ((kd (n0 : Int32).toNatClampNeg).toInt ≠ 0 → (y_26 : Int32).toNatClampNeg = (n0 : Int32).toNatClampNeg + 1) := w_25_0
                          have b_y_26 : 0 ≤ (y_26).toInt ∧ (y_26).toInt ≤ 1600 := dg_I.intb (lo := 0) (hi := 1600) I_25 sX_209 (by decide +kernel) f_y_26
                          have nq_y_26 : (y_26 : Int32).toNatClampNeg = (n0 : Int32).toNatClampNeg + 1 := by have h9 := w_25_0.2 (g_fw_ne qw_21_2); omega
                          have ni_y_26 : (y_26).toInt = (n0).toInt + 1 := by have h8 := dk_clN y_26; have h9 := dk_clN n0; omega
                          refine lv_iconst (v := 1) hx hb dX6_readPart_153 (by decide +kernel) ?_
                          have hz_27 : (1 : Int32).toInt = 1 := by decide +kernel
                          have hz_28 : (1 : Int32).toInt = 1 := by decide +kernel
                          have hz_29 : (1 : Int32).toInt = 1 := by decide +kernel
                          have hz_30 : (1 : Int32).toInt = 1 := by decide +kernel
                          have qn9 : g_n kd (n0 : Int32).toNatClampNeg = false := g_iff_f g_n_iff.symm (by omega)
                          refine W.widen (k := 0) (n := 0) (Nat.le_of_ble_eq_true rfl) (Nat.le_of_ble_eq_true rfl) ?_
                          exact dg_iret hx hb hr hlocks (by decide +kernel) hP hS ⟨I_25, M_25, (by decide +kernel), (m_hid.mk (fun q9 => q_as.to (q_as.keep ap_23 (m_25.1 209 7 _ sX_209 (dk_dq rfl)) (m_25.2 (gd + 9) _ (rX_9 gd hk_gd) (dk_dq rfl)).1) (by simp [d_part, d_prs, qw_2_1, qw_6_1, qw_10_1, qw_14_1, qw_21_2, nq_y_26, u5_x_20.out, qn9]))), ⟨y_26, y_24, f_y_26, ((m_25.1 209 7 _ sX_209 (dk_dq rfl)).trans f_y_24), ⟨⟨by omega, by omega⟩, g_ans.y (by omega) (by simp [x_part, g_tk, qw_2_1, qw_6_1, qw_10_1, qw_14_1, qw_21_2, nq_y_26, qn9])⟩⟩, (G9X.keep w_23_2 m_25 (dk_dq rfl)), trivial⟩ dX6_readPart_154
                      · have jc_22 := dk_eqc (k := 0) (by decide +kernel) c_22
                        have qw_21_2 : g_fw kd vl (ru).toInt (n0 : Int32).toNatClampNeg = false := by have h9 := g_iff_f w_21_2 (by omega); exact h9
                        refine lv_aload_n hx hb dX6_readPart_138 rfl (lv_at hl 1 rfl) ?_
                        refine lv_iconst (v := 1) hx hb dX6_readPart_139 (by decide +kernel) ?_
                        refine dg_calli hS hA1 hA (va_runV (As := [.int 1]) (rest := []) F (c_rd_fail l g D o S 1 en n0 f_n0 (by omega) ke f_ke (by omega) (by omega) I H.size) (cwV 1 hts (bw_V wB_30 wB_31 wB_32 wB_24 wB_29) rfl rfl rfl (by decide +kernel) ⟨by dsimp only; omega, by dsimp only; omega⟩) (dg_preV sX_209 rfl K ST hP hS hA1 hA) rfl rfl hl.1 rfl (lv_room (Nat.le_of_ble_eq_true rfl)) dX6_readPart_140 ⟨Nat.le_of_ble_eq_true rfl, Nat.le_of_ble_eq_true rfl⟩) (fun x_31 S_32 hw_32 H locs hP hS => ?_)
                        obtain ⟨I_32, m_32, w_32_0, -⟩ := hw_32
                        have M_32 := dg_sm.tr M_0 m_32 (dk_dq rfl) (dk_dq rfl)
                        have w_32_0 : 0 ≤ (x_31).toInt ∧ (x_31).toInt ≤ 0 := w_32_0
                        have qn9 : g_n kd (n0 : Int32).toNatClampNeg = false := g_iff_f g_n_iff.symm (by omega)
                        refine W.widen (k := 0) (n := 0) (Nat.le_of_ble_eq_true rfl) (Nat.le_of_ble_eq_true rfl) ?_
                        exact dg_iret hx hb hr hlocks (dk_znar2 (by omega)) hP hS ⟨I_32, M_32, (by omega), (m_hid.mk (fun q9 => absurd q9 (by omega))), ⟨n0, sc, ((m_32.1 209 4 _ sX_209 (dk_dq rfl)).trans f_n0), ((m_32.1 209 7 _ sX_209 (dk_dq rfl)).trans f_sc), ⟨⟨by omega, by omega⟩, g_ans.n (by omega) (by simp [x_part, g_tk, qw_2_1, qw_6_1, qw_10_1, qw_14_1, qw_21_2, qn9])⟩⟩, (G9X.keep G9 m_32 (dk_dq rfl)), trivial⟩ dX6_readPart_143
                  · as_aux_lemma =>
                      have jc_19 := dk_eqc (k := 3) (by decide +kernel) c_19
                      refine lv_aload_n hx hb dX6_readPart_107 rfl (lv_at hl 0 rfl) ?_
                      refine lv_aload_n hx hb dX6_readPart_108 rfl (lv_at hl 0 rfl) ?_
                      refine dg_get (C := RX6) (T := TX6) (N := 8) hx hb hts (fun w h => bw_mem (wU_X6 w h)) hown K hP sX_209 rfl 2 (dk_dq rfl) (hts _ (bw_mem wB_13)) (fun _ h9 => h9) (v := .ref (o + 210)) (show S.1 209 2 = .ref (o + 210) from dg_I.rel (d := 1) I sX_209 (by decide +kernel)) dX6_readPart_109 ?_
                      refine dg_get (C := RX9) (T := TX9) (N := 5) hx hb hts (fun w h => bw_mem (wU_X9 w h)) hown K hP sX_210 rfl 2 (dk_dq rfl) (hts _ (bw_mem wB_16)) (fun _ h9 => h9) (v := .ref (o + 213)) (show S.1 210 2 = .ref (o + 213) from dg_I.rel (d := 3) I sX_210 (by decide +kernel)) dX6_readPart_112 ?_
                      refine lv_aload_n hx hb dX6_readPart_115 rfl (lv_at hl 0 rfl) ?_
                      refine dg_get (C := RX6) (T := TX6) (N := 8) hx hb hts (fun w h => bw_mem (wU_X6 w h)) hown K hP sX_209 rfl 4 (dk_dq rfl) (hts _ (bw_mem wB_15)) (fun _ h9 => h9) (v := .int n0) f_n0 dX6_readPart_116 ?_
                      have hin_33 : vp_in n0 1601 := (dk_inv2 (by omega))
                      refine dg_iald hx hb K hP sX_213 hin_33 dX6_readPart_119 (fun x_34 ex_34 => ?_)
                      have kx_34 : (vl (n0 : Int32).toNatClampNeg).toInt = (x_34).toInt := by rw [ex_34, hvl _ (by unfold Int32.toNatClampNeg; omega)]
                      refine dg_callv hS hA1 hA (va_runV (As := [.int x_34]) (rest := []) F (c_rd_put l g D o S x_34 en S0 d0 gd hk_gd f_gd n0 f_n0 (by omega) sc f_sc (by omega) ke f_ke (by omega) (by omega) hd0 G9 I H.size) (cwV 1 hts (bw_V wB_96 wB_97 wB_98 wB_24 wB_95) rfl rfl rfl (by decide +kernel) ⟨by dsimp only; omega, by dsimp only; omega⟩) (dg_preV sX_209 rfl K ST hP hS hA1 hA) rfl rfl hl.1 rfl (lv_room (Nat.le_of_ble_eq_true rfl)) dX6_readPart_120 ⟨Nat.le_of_ble_eq_true rfl, Nat.le_of_ble_eq_true rfl⟩) (fun S_35 hw_35 H locs hP hS => ?_)
                      obtain ⟨I_35, m_35, w_35_0, w_35_1, w_35_2, -⟩ := hw_35
                      have M_35 := dg_sm.tr M_0 m_35 (dk_dq rfl) (dk_dq rfl)
                      replace w_35_0 : m_hid ((sc).toInt < 1600 → q_as gd S S_35 sc [(x_34).toInt]) := w_35_0
                      have ap_35 : q_as gd S S_35 sc ([(x_34).toInt]) := (by have h9 := w_35_0.out (by omega); exact h9)
                      obtain ⟨y_36, f_y_36, w_35_1⟩ := w_35_1
                      have w_35_1 : (sc).toInt < 1600 → (y_36).toInt = (sc).toInt + 1 := w_35_1
                      have b_y_36 : 0 ≤ (y_36).toInt ∧ (y_36).toInt ≤ 1600 := dg_I.intb (lo := 0) (hi := 1600) I_35 sX_209 (by decide +kernel) f_y_36
                      refine lv_aload_n hx hb dX6_readPart_123 rfl (lv_at hl 0 rfl) ?_
                      refine dg_callv hS hA1 hA (va_runV (As := []) (rest := []) F (c_rd_pass l g D o S_35 en kd vl n0 ((m_35.1 209 4 _ sX_209 (dk_dq rfl)).trans f_n0) (by omega) ke ((congrFun (m_35.2 211 _ sX_211 (dk_dq rfl)).1 _).trans f_ke) (by omega) (by omega) (fun k9 h9 => (congrFun (m_35.2 211 _ sX_211 (dk_dq rfl)).1 k9).trans (hkd k9 h9)) (fun k9 h9 => (congrFun (m_35.2 213 _ sX_213 (dk_dq rfl)).1 k9).trans (hvl k9 h9)) I_35 H.size) (cwV 0 hts (bw_V wB_26 wB_27 wB_28 wB_24 wB_25) rfl rfl rfl (by decide +kernel) ⟨by dsimp only; omega, by dsimp only; omega⟩) (dg_preV sX_209 rfl K ST hP hS hA1 hA) rfl rfl hl.1 rfl (lv_room (Nat.le_of_ble_eq_true rfl)) dX6_readPart_124 ⟨Nat.le_of_ble_eq_true rfl, Nat.le_of_ble_eq_true rfl⟩) (fun S_37 hw_37 H locs hP hS => ?_)
                      obtain ⟨I_37, m_37, w_37_0, -⟩ := hw_37
                      have M_37 := dg_sm.tr M_35 m_37 (dk_dq rfl) (dk_dq rfl)
                      obtain ⟨y_38, f_y_38, w_37_0⟩ := w_37_0
                      have w_37_0 : (y_38).toInt ≤ (en).toInt ∧ ((kd (n0 : Int32).toNatClampNeg).toInt ≠ 0 → (y_38 : Int32).toNatClampNeg = (n0 : Int32).toNatClampNeg + 1) := w_37_0
                      have b_y_38 : 0 ≤ (y_38).toInt ∧ (y_38).toInt ≤ 1600 := dg_I.intb (lo := 0) (hi := 1600) I_37 sX_209 (by decide +kernel) f_y_38
                      have nq_y_38 : (y_38 : Int32).toNatClampNeg = (n0 : Int32).toNatClampNeg + 1 := by have h9 := w_37_0.2 (by omega); omega
                      have ni_y_38 : (y_38).toInt = (n0).toInt + 1 := by have h8 := dk_clN y_38; have h9 := dk_clN n0; omega
                      refine lv_iconst (v := 1) hx hb dX6_readPart_127 (by decide +kernel) ?_
                      have hz_39 : (1 : Int32).toInt = 1 := by decide +kernel
                      have hz_40 : (1 : Int32).toInt = 1 := by decide +kernel
                      have hz_41 : (1 : Int32).toInt = 1 := by decide +kernel
                      have hz_42 : (1 : Int32).toInt = 1 := by decide +kernel
                      have qn9 : g_n kd (n0 : Int32).toNatClampNeg = true := g_n_iff.mpr (by omega)
                      refine W.widen (k := 0) (n := 0) (Nat.le_of_ble_eq_true rfl) (Nat.le_of_ble_eq_true rfl) ?_
                      exact dg_iret hx hb hr hlocks (by decide +kernel) hP hS ⟨I_37, M_37, (by decide +kernel), (m_hid.mk (fun q9 => q_as.to (q_as.keep ap_35 (m_37.1 209 7 _ sX_209 (dk_dq rfl)) (m_37.2 (gd + 9) _ (rX_9 gd hk_gd) (dk_dq rfl)).1) (by simp [d_part, d_prs, qw_2_1, qw_6_1, qw_10_1, qw_14_1, nq_y_38, kx_34, qn9]))), ⟨y_38, y_36, f_y_38, ((m_37.1 209 7 _ sX_209 (dk_dq rfl)).trans f_y_36), ⟨⟨by omega, by omega⟩, g_ans.y (by omega) (by simp [x_part, g_tk, qw_2_1, qw_6_1, qw_10_1, qw_14_1, nq_y_38, qn9])⟩⟩, (G9X.keep w_35_2 m_37 (dk_dq rfl)), trivial⟩ dX6_readPart_128
              · as_aux_lemma =>
                  have jc_16 := dk_neqc (k := 0) (by decide +kernel) c_16
                  have qw_14_1 : g_o kd vl 26 (n0 : Int32).toNatClampNeg = true := by have h9 := w_14_1.mp (by omega); rw [show (26 : Int32).toInt = 26 from by decide +kernel] at h9; exact h9
                  refine lv_aload_n hx hb dX6_readPart_83 rfl (lv_at hl 0 rfl) ?_
                  refine lv_iload_n hx hb dX6_readPart_84 rfl (lv_at hl 1 rfl) ?_
                  refine lv_bipush (v := (-16)) hx hb dX6_readPart_85 (by decide +kernel) ?_
                  refine dg_calli hS hA1 hA (va_runV (As := [.int dp, .int (-16)]) (rest := []) F (cg_readPair jl dp dq hdp hdq hLT hLS hLF l g D o S (-16) en kd vl S0 d0 gd hk_gd f_gd n0 f_n0 (by omega) ru f_ru (by omega) sc f_sc (by omega) ke f_ke (by omega) (by omega) hkd hvl (by omega) (g_o_ne qw_14_1) hd0 G9 I H.size) (cwV 2 hts (bw_V wB_104 wB_105 wB_106 wB_24 wB_103) rfl rfl rfl (by decide +kernel) ⟨by dsimp only; omega, by dsimp only; omega⟩) (dg_preV sX_209 rfl K ST hP hS hA1 hA) rfl rfl hl.1 rfl (lv_room (Nat.le_of_ble_eq_true rfl)) dX6_readPart_87 ⟨Nat.le_of_ble_eq_true rfl, Nat.le_of_ble_eq_true rfl⟩) (fun x_43 S_44 hw_44 H locs hP hS => ?_)
                  obtain ⟨I_44, m_44, w_44_0, w_44_1, w_44_2, w_44_3, -⟩ := hw_44
                  have M_44 := dg_sm.tr M_0 m_44 (dk_dq rfl) (dk_dq rfl)
                  have hz_45 : (-16 : Int32).toInt = (-16) := by decide +kernel
                  have w_44_0 : 0 ≤ (x_43).toInt ∧ (x_43).toInt ≤ 1 := w_44_0
                  replace w_44_1 : m_hid ((x_43).toInt = 1 → q_as gd S S_44 sc (d_pair (x_lv kd vl (ru).toInt (jl + 1)).1 (d_lv kd vl (ru).toInt (jl + 1)).1 ((n0 : Int32).toNatClampNeg + 2) ++ [((-16 : Int32)).toInt])) := w_44_1
                  have ap_44 : m_hid ((x_43).toInt = 1 → q_as gd S S_44 sc (d_pair (x_lv kd vl (ru).toInt (jl + 1)).1 (d_lv kd vl (ru).toInt (jl + 1)).1 ((n0 : Int32).toNatClampNeg + 2) ++ [-16])) := m_hid.mk (fun q9 => (by have h9 := w_44_1.out q9; rw [show (-16 : Int32).toInt = -16 from by decide +kernel] at h9; exact h9))
                  obtain ⟨y_46, y_47, f_y_46, f_y_47, w_44_2⟩ := w_44_2
                  have w_44_2 : ((y_46).toInt ≤ (en).toInt ∧ ((x_43).toInt = 1 → ((sc).toInt + 1 ≤ (y_47).toInt ∧ (y_47).toInt - (sc).toInt ≤ (y_46).toInt - (n0).toInt))) ∧ g_ans x_43 (x_prs kd vl (x_lv kd vl (ru).toInt (jl + 1)).1 (n0 : Int32).toNatClampNeg) (y_46 : Int32).toNatClampNeg := w_44_2
                  have b_y_46 : 0 ≤ (y_46).toInt ∧ (y_46).toInt ≤ 1600 := dg_I.intb (lo := 0) (hi := 1600) I_44 sX_209 (by decide +kernel) f_y_46
                  have b_y_47 : 0 ≤ (y_47).toInt ∧ (y_47).toInt ≤ 1600 := dg_I.intb (lo := 0) (hi := 1600) I_44 sX_209 (by decide +kernel) f_y_47
                  refine W.widen (k := 0) (n := 0) (Nat.le_of_ble_eq_true rfl) (Nat.le_of_ble_eq_true rfl) ?_
                  exact dg_iret hx hb hr hlocks (dk_znar2 (by omega)) hP hS ⟨I_44, M_44, (by omega), (m_hid.mk (fun q9 => q_as.to (ap_44.out (by omega)) (by simp [d_part, d_prs, qw_2_1, qw_6_1, qw_10_1, qw_14_1]))), ⟨y_46, y_47, f_y_46, f_y_47, ⟨⟨by omega, by omega⟩, (g_ans.to (E := x_prs kd vl (x_lv kd vl (ru).toInt (jl + 1)).1 (n0 : Int32).toNatClampNeg) (by have h9 := w_44_2.2; exact h9) (by simp [x_part, g_tk, qw_2_1, qw_6_1, qw_10_1, qw_14_1]))⟩⟩, w_44_3, trivial⟩ dX6_readPart_90
          · as_aux_lemma =>
              have jc_12 := dk_neqc (k := 0) (by decide +kernel) c_12
              have qw_10_1 : g_o kd vl 25 (n0 : Int32).toNatClampNeg = true := by have h9 := w_10_1.mp (by omega); rw [show (25 : Int32).toInt = 25 from by decide +kernel] at h9; exact h9
              refine lv_aload_n hx hb dX6_readPart_66 rfl (lv_at hl 0 rfl) ?_
              refine lv_iload_n hx hb dX6_readPart_67 rfl (lv_at hl 1 rfl) ?_
              refine lv_bipush (v := (-15)) hx hb dX6_readPart_68 (by decide +kernel) ?_
              refine dg_calli hS hA1 hA (va_runV (As := [.int dp, .int (-15)]) (rest := []) F (cg_readPair jl dp dq hdp hdq hLT hLS hLF l g D o S (-15) en kd vl S0 d0 gd hk_gd f_gd n0 f_n0 (by omega) ru f_ru (by omega) sc f_sc (by omega) ke f_ke (by omega) (by omega) hkd hvl (by omega) (g_o_ne qw_10_1) hd0 G9 I H.size) (cwV 2 hts (bw_V wB_104 wB_105 wB_106 wB_24 wB_103) rfl rfl rfl (by decide +kernel) ⟨by dsimp only; omega, by dsimp only; omega⟩) (dg_preV sX_209 rfl K ST hP hS hA1 hA) rfl rfl hl.1 rfl (lv_room (Nat.le_of_ble_eq_true rfl)) dX6_readPart_70 ⟨Nat.le_of_ble_eq_true rfl, Nat.le_of_ble_eq_true rfl⟩) (fun x_48 S_49 hw_49 H locs hP hS => ?_)
              obtain ⟨I_49, m_49, w_49_0, w_49_1, w_49_2, w_49_3, -⟩ := hw_49
              have M_49 := dg_sm.tr M_0 m_49 (dk_dq rfl) (dk_dq rfl)
              have hz_50 : (-15 : Int32).toInt = (-15) := by decide +kernel
              have w_49_0 : 0 ≤ (x_48).toInt ∧ (x_48).toInt ≤ 1 := w_49_0
              replace w_49_1 : m_hid ((x_48).toInt = 1 → q_as gd S S_49 sc (d_pair (x_lv kd vl (ru).toInt (jl + 1)).1 (d_lv kd vl (ru).toInt (jl + 1)).1 ((n0 : Int32).toNatClampNeg + 2) ++ [((-15 : Int32)).toInt])) := w_49_1
              have ap_49 : m_hid ((x_48).toInt = 1 → q_as gd S S_49 sc (d_pair (x_lv kd vl (ru).toInt (jl + 1)).1 (d_lv kd vl (ru).toInt (jl + 1)).1 ((n0 : Int32).toNatClampNeg + 2) ++ [-15])) := m_hid.mk (fun q9 => (by have h9 := w_49_1.out q9; rw [show (-15 : Int32).toInt = -15 from by decide +kernel] at h9; exact h9))
              obtain ⟨y_51, y_52, f_y_51, f_y_52, w_49_2⟩ := w_49_2
              have w_49_2 : ((y_51).toInt ≤ (en).toInt ∧ ((x_48).toInt = 1 → ((sc).toInt + 1 ≤ (y_52).toInt ∧ (y_52).toInt - (sc).toInt ≤ (y_51).toInt - (n0).toInt))) ∧ g_ans x_48 (x_prs kd vl (x_lv kd vl (ru).toInt (jl + 1)).1 (n0 : Int32).toNatClampNeg) (y_51 : Int32).toNatClampNeg := w_49_2
              have b_y_51 : 0 ≤ (y_51).toInt ∧ (y_51).toInt ≤ 1600 := dg_I.intb (lo := 0) (hi := 1600) I_49 sX_209 (by decide +kernel) f_y_51
              have b_y_52 : 0 ≤ (y_52).toInt ∧ (y_52).toInt ≤ 1600 := dg_I.intb (lo := 0) (hi := 1600) I_49 sX_209 (by decide +kernel) f_y_52
              refine W.widen (k := 0) (n := 0) (Nat.le_of_ble_eq_true rfl) (Nat.le_of_ble_eq_true rfl) ?_
              exact dg_iret hx hb hr hlocks (dk_znar2 (by omega)) hP hS ⟨I_49, M_49, (by omega), (m_hid.mk (fun q9 => q_as.to (ap_49.out (by omega)) (by simp [d_part, d_prs, qw_2_1, qw_6_1, qw_10_1]))), ⟨y_51, y_52, f_y_51, f_y_52, ⟨⟨by omega, by omega⟩, (g_ans.to (E := x_prs kd vl (x_lv kd vl (ru).toInt (jl + 1)).1 (n0 : Int32).toNatClampNeg) (by have h9 := w_49_2.2; exact h9) (by simp [x_part, g_tk, qw_2_1, qw_6_1, qw_10_1]))⟩⟩, w_49_3, trivial⟩ dX6_readPart_73
      · as_aux_lemma =>
          have jc_8 := dk_neqc (k := 0) (by decide +kernel) c_8
          have qw_6_1 : g_o kd vl 20 (n0 : Int32).toNatClampNeg = true := by have h9 := w_6_1.mp (by omega); rw [show (20 : Int32).toInt = 20 from by decide +kernel] at h9; exact h9
          refine lv_aload_n hx hb dX6_readPart_51 rfl (lv_at hl 0 rfl) ?_
          refine lv_iload_n hx hb dX6_readPart_52 rfl (lv_at hl 1 rfl) ?_
          refine dg_calli hS hA1 hA (va_runV (As := [.int dp]) (rest := []) F (cg_readChoice jl dp dq hdp hdq hLT hLS hLF l g D o S en kd vl S0 d0 gd hk_gd f_gd n0 f_n0 (by omega) ru f_ru (by omega) sc f_sc (by omega) ke f_ke (by omega) (by omega) hkd hvl (by omega) (g_o_ne qw_6_1) hd0 G9 I H.size) (cwV 1 hts (bw_V wB_108 wB_109 wB_110 wB_24 wB_107) rfl rfl rfl (by decide +kernel) ⟨by dsimp only; omega, by dsimp only; omega⟩) (dg_preV sX_209 rfl K ST hP hS hA1 hA) rfl rfl hl.1 rfl (lv_room (Nat.le_of_ble_eq_true rfl)) dX6_readPart_53 ⟨Nat.le_of_ble_eq_true rfl, Nat.le_of_ble_eq_true rfl⟩) (fun x_53 S_54 hw_54 H locs hP hS => ?_)
          obtain ⟨I_54, m_54, w_54_0, w_54_1, w_54_2, w_54_3, -⟩ := hw_54
          have M_54 := dg_sm.tr M_0 m_54 (dk_dq rfl) (dk_dq rfl)
          have w_54_0 : 0 ≤ (x_53).toInt ∧ (x_53).toInt ≤ 1 := w_54_0
          replace w_54_1 : m_hid ((x_53).toInt = 1 → q_as gd S S_54 sc (d_choice (x_lv kd vl (ru).toInt (jl + 1)).1 (x_lv kd vl (ru).toInt (jl + 1)).2.1 (d_lv kd vl (ru).toInt (jl + 1)).1 (d_lv kd vl (ru).toInt (jl + 1)).2.1 (n0 : Int32).toNatClampNeg)) := w_54_1
          have ap_54 : m_hid ((x_53).toInt = 1 → q_as gd S S_54 sc (d_choice (x_lv kd vl (ru).toInt (jl + 1)).1 (x_lv kd vl (ru).toInt (jl + 1)).2.1 (d_lv kd vl (ru).toInt (jl + 1)).1 (d_lv kd vl (ru).toInt (jl + 1)).2.1 (n0 : Int32).toNatClampNeg)) := m_hid.mk (fun q9 => (by have h9 := w_54_1.out q9; exact h9))
          obtain ⟨y_55, y_56, f_y_55, f_y_56, w_54_2⟩ := w_54_2
          have w_54_2 : ((y_55).toInt ≤ (en).toInt ∧ ((x_53).toInt = 1 → ((sc).toInt + 1 ≤ (y_56).toInt ∧ (y_56).toInt - (sc).toInt ≤ (y_55).toInt - (n0).toInt))) ∧ g_ans x_53 (x_choice kd vl (x_lv kd vl (ru).toInt (jl + 1)).1 (x_lv kd vl (ru).toInt (jl + 1)).2.1 (n0 : Int32).toNatClampNeg) (y_55 : Int32).toNatClampNeg := w_54_2
          have b_y_55 : 0 ≤ (y_55).toInt ∧ (y_55).toInt ≤ 1600 := dg_I.intb (lo := 0) (hi := 1600) I_54 sX_209 (by decide +kernel) f_y_55
          have b_y_56 : 0 ≤ (y_56).toInt ∧ (y_56).toInt ≤ 1600 := dg_I.intb (lo := 0) (hi := 1600) I_54 sX_209 (by decide +kernel) f_y_56
          refine W.widen (k := 0) (n := 0) (Nat.le_of_ble_eq_true rfl) (Nat.le_of_ble_eq_true rfl) ?_
          exact dg_iret hx hb hr hlocks (dk_znar2 (by omega)) hP hS ⟨I_54, M_54, (by omega), (m_hid.mk (fun q9 => q_as.to (ap_54.out (by omega)) (by simp [d_part, d_prs, qw_2_1, qw_6_1]))), ⟨y_55, y_56, f_y_55, f_y_56, ⟨⟨by omega, by omega⟩, (g_ans.to (E := x_choice kd vl (x_lv kd vl (ru).toInt (jl + 1)).1 (x_lv kd vl (ru).toInt (jl + 1)).2.1 (n0 : Int32).toNatClampNeg) (by have h9 := w_54_2.2; exact h9) (by simp [x_part, g_tk, qw_2_1, qw_6_1]))⟩⟩, w_54_3, trivial⟩ dX6_readPart_56
  · as_aux_lemma =>
      have jc_4 := dk_neqc (k := 0) (by decide +kernel) c_4
      have qw_2_1 : g_s kd vl 40 (n0 : Int32).toNatClampNeg = true := by have h9 := w_2_1.mp (by omega); rw [show (40 : Int32).toInt = 40 from by decide +kernel] at h9; exact h9
      refine lv_aload_n hx hb dX6_readPart_9 rfl (lv_at hl 0 rfl) ?_
      refine lv_iload_n hx hb dX6_readPart_10 rfl (lv_at hl 1 rfl) ?_
      refine dg_calli hS hA1 hA (va_runV (As := [.int dp]) (rest := []) F (cg_passOpening jl dp dq hdp hdq hLT hLS hLF l g D o S en kd vl n0 f_n0 (by omega) ke f_ke (by omega) (by omega) hkd hvl I H.size) (cwV 1 hts (bw_V wB_88 wB_89 wB_90 wB_24 wB_87) rfl rfl rfl (by decide +kernel) ⟨by dsimp only; omega, by dsimp only; omega⟩) (dg_preV sX_209 rfl K ST hP hS hA1 hA) rfl rfl hl.1 rfl (lv_room (Nat.le_of_ble_eq_true rfl)) dX6_readPart_11 ⟨Nat.le_of_ble_eq_true rfl, Nat.le_of_ble_eq_true rfl⟩) (fun x_57 S_58 hw_58 H locs hP hS => ?_)
      obtain ⟨I_58, m_58, w_58_0, w_58_1, -⟩ := hw_58
      have M_58 := dg_sm.tr M_0 m_58 (dk_dq rfl) (dk_dq rfl)
      have w_58_0 : 1 ≤ (x_57).toInt ∧ (x_57).toInt ≤ 1 := w_58_0
      obtain ⟨y_59, f_y_59, w_58_1⟩ := w_58_1
      have w_58_1 : (y_59).toInt ≤ (en).toInt ∧ ((kd (n0 : Int32).toNatClampNeg).toInt ≠ 0 → (y_59 : Int32).toNatClampNeg = (n0 : Int32).toNatClampNeg + 1) := w_58_1
      have b_y_59 : 0 ≤ (y_59).toInt ∧ (y_59).toInt ≤ 1600 := dg_I.intb (lo := 0) (hi := 1600) I_58 sX_209 (by decide +kernel) f_y_59
      have nq_y_59 : (y_59 : Int32).toNatClampNeg = (n0 : Int32).toNatClampNeg + 1 := by have h9 := w_58_1.2 (g_s_ne qw_2_1); omega
      have ni_y_59 : (y_59).toInt = (n0).toInt + 1 := by have h8 := dk_clN y_59; have h9 := dk_clN n0; omega
      refine lv_if_eq (tgt := 40) hx hb dX6_readPart_14 (dk_dq rfl) (fun c => absurd c (fun z => absurd (dk_eqc (k := 0) (by decide +kernel) z) (by omega))) (fun _ => ?_)
      refine lv_aload_n hx hb dX6_readPart_17 rfl (lv_at hl 0 rfl) ?_
      refine lv_iload_n hx hb dX6_readPart_18 rfl (lv_at hl 1 rfl) ?_
      refine lv_iconst (v := 1) hx hb dX6_readPart_19 (by decide +kernel) ?_
      refine lv_iadd hx hb dX6_readPart_20 ?_
      refine dk_top (y := dq) hdq ?_
      refine dg_calli hS hA1 hA (va_runV (As := [.int dq]) (rest := []) F (hLS l g D o S_58 en kd vl S0 d0 gd hk_gd ((m_58.1 209 3 _ sX_209 (dk_dq rfl)).trans f_gd) y_59 f_y_59 (by omega) ru ((m_58.1 209 6 _ sX_209 (dk_dq rfl)).trans f_ru) (by omega) sc ((m_58.1 209 7 _ sX_209 (dk_dq rfl)).trans f_sc) (by omega) ke ((congrFun (m_58.2 211 _ sX_211 (dk_dq rfl)).1 _).trans f_ke) (by omega) (by omega) (fun k9 h9 => (congrFun (m_58.2 211 _ sX_211 (dk_dq rfl)).1 k9).trans (hkd k9 h9)) (fun k9 h9 => (congrFun (m_58.2 213 _ sX_213 (dk_dq rfl)).1 k9).trans (hvl k9 h9)) (by omega) hd0 (G9X.keep G9 m_58 (dk_dq rfl)) I_58 H.size) (cwV 1 hts (bw_V wB_128 wB_129 wB_130 wB_24 wB_127) rfl rfl rfl (by decide +kernel) ⟨by dsimp only; omega, by dsimp only; omega⟩) (dg_preV sX_209 rfl K ST hP hS hA1 hA) rfl rfl hl.1 rfl (lv_room (Nat.le_of_ble_eq_true rfl)) dX6_readPart_21 ⟨Nat.le_of_ble_eq_true rfl, Nat.le_of_ble_eq_true rfl⟩) (fun x_60 S_61 hw_61 H locs hP hS => ?_)
      obtain ⟨I_61, m_61, w_61_0, w_61_1, w_61_2, w_61_3, -⟩ := hw_61
      have M_61 := dg_sm.tr M_58 m_61 (dk_dq rfl) (dk_dq rfl)
      have w_61_0 : 0 ≤ (x_60).toInt ∧ (x_60).toInt ≤ 1 := w_61_0
      replace w_61_1 : m_hid ((x_60).toInt = 1 → q_as gd S_58 S_61 sc ((d_lv kd vl (ru).toInt (jl + 1)).1 (y_59 : Int32).toNatClampNeg)) := w_61_1
      have ap_61 : m_hid ((x_60).toInt = 1 → q_as gd S S_61 sc ((d_lv kd vl (ru).toInt (jl + 1)).1 ((n0 : Int32).toNatClampNeg + 1))) := m_hid.mk (fun q9 => (q_as.fst (m_58.2 (gd + 9) _ (rX_9 gd hk_gd) (dk_dq rfl)).1 (by have h9 := w_61_1.out q9; rw [nq_y_59] at h9; exact h9)))
      obtain ⟨y_62, y_63, f_y_62, f_y_63, w_61_2⟩ := w_61_2
      have w_61_2 : ((y_62).toInt ≤ (en).toInt ∧ ((x_60).toInt = 1 → ((sc).toInt + 1 ≤ (y_63).toInt ∧ (y_63).toInt - (sc).toInt ≤ (y_62).toInt - (y_59).toInt))) ∧ g_ans x_60 ((x_lv kd vl (ru).toInt (jl + 1)).1 (y_59 : Int32).toNatClampNeg) (y_62 : Int32).toNatClampNeg := w_61_2
      have b_y_62 : 0 ≤ (y_62).toInt ∧ (y_62).toInt ≤ 1600 := dg_I.intb (lo := 0) (hi := 1600) I_61 sX_209 (by decide +kernel) f_y_62
      have b_y_63 : 0 ≤ (y_63).toInt ∧ (y_63).toInt ≤ 1600 := dg_I.intb (lo := 0) (hi := 1600) I_61 sX_209 (by decide +kernel) f_y_63
      refine lv_if_eq (tgt := 40) hx hb dX6_readPart_24 (dk_dq rfl) (fun c_64 => ?_) (fun c_64 => ?_)
      · have jc_64 := dk_eqc (k := 0) (by decide +kernel) c_64
        have qw_61_2 : (x_lv kd vl (ru).toInt (jl + 1)).1 ((n0 : Int32).toNatClampNeg + 1) = none := by have h9 := w_61_2.2.2 (by omega); rw [nq_y_59] at h9; exact h9
        refine lv_iconst (v := 0) hx hb dX6_readPart_40 (by decide +kernel) ?_
        have hz_65 : (0 : Int32).toInt = 0 := by decide +kernel
        have hz_66 : (0 : Int32).toInt = 0 := by decide +kernel
        have hz_67 : (0 : Int32).toInt = 0 := by decide +kernel
        have hz_68 : (0 : Int32).toInt = 0 := by decide +kernel
        refine W.widen (k := 0) (n := 0) (Nat.le_of_ble_eq_true rfl) (Nat.le_of_ble_eq_true rfl) ?_
        exact dg_iret hx hb hr hlocks (by decide +kernel) hP hS ⟨I_61, M_61, (by decide +kernel), (m_hid.mk (fun q9 => absurd q9 (by omega))), ⟨y_62, y_63, f_y_62, f_y_63, ⟨⟨by omega, by omega⟩, g_ans.n (by omega) (by simp [x_part, g_tk, qw_2_1, nq_y_59, qw_61_2])⟩⟩, w_61_3, trivial⟩ dX6_readPart_41
      · as_aux_lemma =>
          have jc_64 := dk_neqc (k := 0) (by decide +kernel) c_64
          have qw_61_2 : (x_lv kd vl (ru).toInt (jl + 1)).1 ((n0 : Int32).toNatClampNeg + 1) = some (y_62 : Int32).toNatClampNeg := by have h9 := w_61_2.2.1 (by omega); rw [nq_y_59] at h9; exact h9
          refine lv_aload_n hx hb dX6_readPart_27 rfl (lv_at hl 0 rfl) ?_
          refine lv_bipush (v := 41) hx hb dX6_readPart_28 (by decide +kernel) ?_
          refine dg_calli hS hA1 hA (va_runV (As := [.int 41]) (rest := []) F (c_rd_takeSign l g D o S_61 41 en kd vl y_62 f_y_62 (by omega) ke ((congrFun ((m_61.2 211 _ sX_211 (dk_dq rfl)).1.trans (m_58.2 211 _ sX_211 (dk_dq rfl)).1) _).trans f_ke) (by omega) (by omega) (fun k9 h9 => (congrFun ((m_61.2 211 _ sX_211 (dk_dq rfl)).1.trans (m_58.2 211 _ sX_211 (dk_dq rfl)).1) k9).trans (hkd k9 h9)) (fun k9 h9 => (congrFun ((m_61.2 213 _ sX_213 (dk_dq rfl)).1.trans (m_58.2 213 _ sX_213 (dk_dq rfl)).1) k9).trans (hvl k9 h9)) I_61 H.size) (cwV 1 hts (bw_V wB_152 wB_153 wB_154 wB_24 wB_151) rfl rfl rfl (by decide +kernel) ⟨by dsimp only; omega, by dsimp only; omega⟩) (dg_preV sX_209 rfl K ST hP hS hA1 hA) rfl rfl hl.1 rfl (lv_room (Nat.le_of_ble_eq_true rfl)) dX6_readPart_30 ⟨Nat.le_of_ble_eq_true rfl, Nat.le_of_ble_eq_true rfl⟩) (fun x_69 S_70 hw_70 H locs hP hS => ?_)
          obtain ⟨I_70, m_70, w_70_0, w_70_1, -⟩ := hw_70
          have M_70 := dg_sm.tr M_61 m_70 (dk_dq rfl) (dk_dq rfl)
          have hz_71 : (41 : Int32).toInt = 41 := by decide +kernel
          have w_70_0 : 0 ≤ (x_69).toInt ∧ (x_69).toInt ≤ 1 := w_70_0
          obtain ⟨y_72, f_y_72, w_70_1⟩ := w_70_1
          have w_70_1 : (y_72).toInt ≤ (en).toInt ∧ g_ans x_69 (g_tk kd vl ((41 : Int32)).toInt (y_62 : Int32).toNatClampNeg) (y_72 : Int32).toNatClampNeg := w_70_1
          have b_y_72 : 0 ≤ (y_72).toInt ∧ (y_72).toInt ≤ 1600 := dg_I.intb (lo := 0) (hi := 1600) I_70 sX_209 (by decide +kernel) f_y_72
          refine lv_if_eq (tgt := 40) hx hb dX6_readPart_33 (dk_dq rfl) (fun c_73 => ?_) (fun c_73 => ?_)
          · have jc_73 := dk_eqc (k := 0) (by decide +kernel) c_73
            have qw_70_1 : g_tk kd vl 41 (y_62 : Int32).toNatClampNeg = none := by have h9 := w_70_1.2.2 (by omega); rw [show (41 : Int32).toInt = 41 from by decide +kernel] at h9; exact h9
            have qw_70_1s := g_tk_none qw_70_1
            refine lv_iconst (v := 0) hx hb dX6_readPart_40 (by decide +kernel) ?_
            have hz_74 : (0 : Int32).toInt = 0 := by decide +kernel
            have hz_75 : (0 : Int32).toInt = 0 := by decide +kernel
            have hz_76 : (0 : Int32).toInt = 0 := by decide +kernel
            have hz_77 : (0 : Int32).toInt = 0 := by decide +kernel
            refine W.widen (k := 0) (n := 0) (Nat.le_of_ble_eq_true rfl) (Nat.le_of_ble_eq_true rfl) ?_
            exact dg_iret hx hb hr hlocks (by decide +kernel) hP hS ⟨I_70, M_70, (by decide +kernel), (m_hid.mk (fun q9 => absurd q9 (by omega))), ⟨y_72, y_63, f_y_72, ((m_70.1 209 7 _ sX_209 (dk_dq rfl)).trans f_y_63), ⟨⟨by omega, by omega⟩, g_ans.n (by omega) (by simp [x_part, g_tk, qw_2_1, nq_y_59, qw_61_2, qw_70_1s])⟩⟩, (G9X.keep w_61_3 m_70 (dk_dq rfl)), trivial⟩ dX6_readPart_41
          · have jc_73 := dk_neqc (k := 0) (by decide +kernel) c_73
            have qw_70_1 : g_tk kd vl 41 (y_62 : Int32).toNatClampNeg = some (y_72 : Int32).toNatClampNeg := by have h9 := w_70_1.2.1 (by omega); rw [show (41 : Int32).toInt = 41 from by decide +kernel] at h9; exact h9
            have qw_70_1s := (g_tk_some qw_70_1).1
            have nq_y_72 : (y_72 : Int32).toNatClampNeg = (y_62 : Int32).toNatClampNeg + 1 := by have h9 := (g_tk_some qw_70_1).2; omega
            have ni_y_72 : (y_72).toInt = (y_62).toInt + 1 := by have h8 := dk_clN y_72; have h9 := dk_clN y_62; omega
            refine lv_iconst (v := 1) hx hb dX6_readPart_36 (by decide +kernel) ?_
            refine lv_goto (tgt := 41) hx hb dX6_readPart_37 (dk_dq rfl) ?_
            have hz_78 : (1 : Int32).toInt = 1 := by decide +kernel
            have hz_79 : (1 : Int32).toInt = 1 := by decide +kernel
            have hz_80 : (1 : Int32).toInt = 1 := by decide +kernel
            have hz_81 : (1 : Int32).toInt = 1 := by decide +kernel
            refine W.widen (k := 0) (n := 0) (Nat.le_of_ble_eq_true rfl) (Nat.le_of_ble_eq_true rfl) ?_
            exact dg_iret hx hb hr hlocks (by decide +kernel) hP hS ⟨I_70, M_70, (by decide +kernel), (m_hid.mk (fun q9 => q_as.to (q_as.keep (ap_61.out (by omega)) (m_70.1 209 7 _ sX_209 (dk_dq rfl)) (m_70.2 (gd + 9) _ (rX_9 gd hk_gd) (dk_dq rfl)).1) (by simp [d_part, d_prs, qw_2_1, nq_y_59, qw_61_2, qw_70_1s, nq_y_72]))), ⟨y_72, y_63, f_y_72, ((m_70.1 209 7 _ sX_209 (dk_dq rfl)).trans f_y_63), ⟨⟨by omega, by omega⟩, g_ans.y (by omega) (by simp [x_part, g_tk, qw_2_1, nq_y_59, qw_61_2, qw_70_1s, nq_y_72])⟩⟩, (G9X.keep w_61_3 m_70 (dk_dq rfl)), trivial⟩ dX6_readPart_41
set_option maxHeartbeats 8000000 in
set_option maxRecDepth 100000 in
theorem cg_readProduct (jl : Nat) (dp dq : Int32) (hdp : dp < 7) (hdq : dp + 1 = dq) (hLT : lvT dq jl) (hLS : lvS dq jl) (hLF : lvF dq jl) (l : Launch) (g : Nat → ClassId) (D : va_G) (o : Nat) (S : dg_S) (en : Int32) (kd : Nat → Int32) (vl : Nat → Int32) (S0 : dg_S) (d0 : Nat) (gd : Nat) (hk_gd : rX gd) (f_gd : S.1 209 3 = .ref (o + gd)) (n0 : Int32) (f_n0 : S.1 209 4 = .int n0) (b_n0 : 0 ≤ (n0).toInt ∧ (n0).toInt ≤ 1600) (ru : Int32) (f_ru : S.1 209 6 = .int ru) (b_ru : 0 ≤ (ru).toInt ∧ (ru).toInt ≤ 2) (sc : Int32) (f_sc : S.1 209 7 = .int sc) (b_sc : 0 ≤ (sc).toInt ∧ (sc).toInt ≤ 1600) (ke : Int32) (f_ke : S.2.1 211 (en : Int32).toNatClampNeg = ke) (b_ke : 0 ≤ (ke).toInt ∧ (ke).toInt ≤ 0) (hne : (n0).toInt ≤ (en).toInt ∧ (en).toInt ≤ 1600 ∧ 0 ≤ (en).toInt) (hkd : ∀ k9 : Nat, k9 ≤ (en : Int32).toNatClampNeg → S.2.1 211 k9 = kd k9) (hvl : ∀ k9 : Nat, k9 ≤ (en : Int32).toNatClampNeg → S.2.1 213 k9 = vl k9) (hsc : (sc).toInt ≤ (n0).toInt) (hd0 : d0 ≠ gd) (G9 : G9X S0 d0 S) (I : CX o S) (sz : Nat) : Met l yX6_readProduct (bw yX6_readProduct cX6_readProduct 5 (some .boolean)) ({ frames := 8 * jl + 14, cells := 0, slots := 0, locals := 183 * jl + 324 } : Room) (dk_Pc g D (dg_w g shX o rfX S) sz [.ref (o + 209), .int dp]) (va_Qi (fun (r : Int32) S' => CX o S' ∧ dg_sm shX [(31, 0), (31, 1), (31, 4), (31, 7)] [28] S S' ∧ (0 ≤ (r).toInt ∧ (r).toInt ≤ 1) ∧ (m_hid ((r).toInt = 1 → q_as gd S S' sc (d_prod kd vl (x_part kd vl (ru).toInt (x_lv kd vl (ru).toInt (jl + 1)).1 (x_lv kd vl (ru).toInt (jl + 1)).2.1) (d_part kd vl (x_lv kd vl (ru).toInt (jl + 1)).1 (x_lv kd vl (ru).toInt (jl + 1)).2.1 (d_lv kd vl (ru).toInt (jl + 1)).1 (d_lv kd vl (ru).toInt (jl + 1)).2.1) (n0 : Int32).toNatClampNeg))) ∧ (∃ y9_4 y9_7 : Int32, S'.1 209 4 = .int y9_4 ∧ S'.1 209 7 = .int y9_7 ∧ (((y9_4).toInt ≤ (en).toInt ∧ ((r).toInt = 1 → ((sc).toInt + 1 ≤ (y9_7).toInt ∧ (y9_7).toInt - (sc).toInt ≤ (y9_4).toInt - (n0).toInt))) ∧ g_ans r (x_prod kd vl (x_part kd vl (ru).toInt (x_lv kd vl (ru).toInt (jl + 1)).1 (x_lv kd vl (ru).toInt (jl + 1)).2.1) (n0 : Int32).toNatClampNeg) (y9_4 : Int32).toNatClampNeg)) ∧ G9X S0 d0 S' ∧ True) (dg_B g D shX o rfX) (dg_A o shX.length sz)) 0 0 (dg_A o shX.length sz) := by
  refine dg_met (cc := cX6_readProduct) (maxL := 5) (ret := (some .boolean)) (dk_dq rfl) rfl (Nat.le_of_ble_eq_true rfl) ?_
  intro p e s m args below meth c A hAe harg hx hb hr hml hts hown hlocks hin hP K hS hA1 hA ST hsz ls hl
  rw [← hAe]
  have F : CallFix p m c cX6_readProduct 5 s args (bw yX6_readProduct cX6_readProduct 5 (some .boolean)) RX6 := ⟨hx, hb, hml, hown, hts⟩
  have hl : lv_has ls 5 [(0, .ref (o + 209)), (1, .int dp)] := hl
  have M_0 : dg_sm shX [(31, 0), (31, 1), (31, 4), (31, 7)] [28] S S := dg_sm.rf
  refine lv_aload_n hx hb dX6_readProduct_0 rfl (lv_at hl 0 rfl) ?_
  refine lv_iload_n hx hb dX6_readProduct_1 rfl (lv_at hl 1 rfl) ?_
  refine dg_calli hS hA1 hA (va_runV (As := [.int dp]) (rest := []) F (cg_readPart jl dp dq hdp hdq hLT hLS hLF l g D o S en kd vl S0 d0 gd hk_gd f_gd n0 f_n0 (by omega) ru f_ru (by omega) sc f_sc (by omega) ke f_ke (by omega) (by omega) hkd hvl (by omega) hd0 G9 I s.heap.size) (cwV 1 hts (bw_V wB_112 wB_113 wB_114 wB_24 wB_111) rfl rfl rfl (by decide +kernel) ⟨by dsimp only; omega, by dsimp only; omega⟩) (dg_preV sX_209 rfl K ST hP hS hA1 hA) rfl rfl hl.1 rfl (lv_room (Nat.le_of_ble_eq_true rfl)) dX6_readProduct_2 ⟨Nat.le_of_ble_eq_true rfl, Nat.le_of_ble_eq_true rfl⟩) (fun x_1 S_2 hw_2 H locs hP hS => ?_)
  obtain ⟨I_2, m_2, w_2_0, w_2_1, w_2_2, w_2_3, -⟩ := hw_2
  have M_2 := dg_sm.tr M_0 m_2 (dk_dq rfl) (dk_dq rfl)
  have w_2_0 : 0 ≤ (x_1).toInt ∧ (x_1).toInt ≤ 1 := w_2_0
  replace w_2_1 : m_hid ((x_1).toInt = 1 → q_as gd S S_2 sc (d_part kd vl (x_lv kd vl (ru).toInt (jl + 1)).1 (x_lv kd vl (ru).toInt (jl + 1)).2.1 (d_lv kd vl (ru).toInt (jl + 1)).1 (d_lv kd vl (ru).toInt (jl + 1)).2.1 (n0 : Int32).toNatClampNeg)) := w_2_1
  have ap_2 : m_hid ((x_1).toInt = 1 → q_as gd S S_2 sc (d_part kd vl (x_lv kd vl (ru).toInt (jl + 1)).1 (x_lv kd vl (ru).toInt (jl + 1)).2.1 (d_lv kd vl (ru).toInt (jl + 1)).1 (d_lv kd vl (ru).toInt (jl + 1)).2.1 (n0 : Int32).toNatClampNeg)) := m_hid.mk (fun q9 => (by have h9 := w_2_1.out q9; exact h9))
  obtain ⟨y_3, y_4, f_y_3, f_y_4, w_2_2⟩ := w_2_2
  have w_2_2 : ((y_3).toInt ≤ (en).toInt ∧ ((x_1).toInt = 1 → ((sc).toInt + 1 ≤ (y_4).toInt ∧ (y_4).toInt - (sc).toInt ≤ (y_3).toInt - (n0).toInt))) ∧ g_ans x_1 (x_part kd vl (ru).toInt (x_lv kd vl (ru).toInt (jl + 1)).1 (x_lv kd vl (ru).toInt (jl + 1)).2.1 (n0 : Int32).toNatClampNeg) (y_3 : Int32).toNatClampNeg := w_2_2
  have b_y_3 : 0 ≤ (y_3).toInt ∧ (y_3).toInt ≤ 1600 := dg_I.intb (lo := 0) (hi := 1600) I_2 sX_209 (by decide +kernel) f_y_3
  have b_y_4 : 0 ≤ (y_4).toInt ∧ (y_4).toInt ≤ 1600 := dg_I.intb (lo := 0) (hi := 1600) I_2 sX_209 (by decide +kernel) f_y_4
  refine lv_istore_n (lv' := [(2, .int x_1), (0, .ref (o + 209)), (1, .int dp)]) hx hb dX6_readProduct_5 rfl hl (dk_dq rfl) rfl (fun ls hl => ?_)
  refine lv_aload_n hx hb dX6_readProduct_6 rfl (lv_at hl 1 rfl) ?_
  refine dg_calli hS hA1 hA (va_runV (As := []) (rest := []) F (c_rd_productStep l g D o S_2 en kd vl y_3 f_y_3 (by omega) ke ((congrFun (m_2.2 211 _ sX_211 (dk_dq rfl)).1 _).trans f_ke) (by omega) (by omega) (fun k9 h9 => (congrFun (m_2.2 211 _ sX_211 (dk_dq rfl)).1 k9).trans (hkd k9 h9)) (fun k9 h9 => (congrFun (m_2.2 213 _ sX_213 (dk_dq rfl)).1 k9).trans (hvl k9 h9)) I_2 H.size) (cwV 0 hts (bw_V wB_116 wB_117 wB_118 wB_24 wB_115) rfl rfl rfl (by decide +kernel) ⟨by dsimp only; omega, by dsimp only; omega⟩) (dg_preV sX_209 rfl K ST hP hS hA1 hA) rfl rfl hl.1 rfl (lv_room (Nat.le_of_ble_eq_true rfl)) dX6_readProduct_7 ⟨Nat.le_of_ble_eq_true rfl, Nat.le_of_ble_eq_true rfl⟩) (fun x_5 S_6 hw_6 H locs hP hS => ?_)
  rw [hw_6.1] at hP
  obtain ⟨hq_6, w_6_0, w_6_1, w_6_2, -⟩ := hw_6
  have w_6_0 : (-14) ≤ (x_5).toInt ∧ (x_5).toInt ≤ 0 := w_6_0
  have w_6_1 : m_hid ((x_5).toInt ≠ 0 → (x_5).toInt = d_po kd vl ((y_3 : Int32).toNatClampNeg)) := w_6_1
  have w_6_2 : (x_5).toInt ≠ 0 ↔ g_po kd vl (y_3 : Int32).toNatClampNeg = true := w_6_2
  have v5_x_5 : m_hid ((x_5).toInt ≠ 0 → (x_5).toInt = d_po kd vl ((y_3 : Int32).toNatClampNeg)) := m_hid.mk (by have h9 := w_6_1.out; exact h9)
  refine lv_istore_n (lv' := [(3, .int x_5), (2, .int x_1), (0, .ref (o + 209)), (1, .int dp)]) hx hb dX6_readProduct_10 rfl hl (dk_dq rfl) rfl (fun ls hl => ?_)
  refine lv_iconst (v := 0) hx hb dX6_readProduct_11 (by decide +kernel) ?_
  refine lv_istore (lv' := [(4, .int 0), (3, .int x_5), (2, .int x_1), (0, .ref (o + 209)), (1, .int dp)]) hx hb dX6_readProduct_12 hl (dk_dq rfl) rfl (fun ls hl => ?_)
  have L_103 : ∀ (n : Nat) (x_97 : Int32) (x_98 : Int32) (x_99 : Int32) (x_100 : Int32) (x_101 : Int32), (0 ≤ (x_97).toInt ∧ (x_97).toInt ≤ 1600) → ((-14) ≤ (x_98).toInt ∧ (x_98).toInt ≤ 0) → (0 ≤ (x_99).toInt ∧ (x_99).toInt ≤ 1) → (0 ≤ (x_100).toInt ∧ (x_100).toInt ≤ 1600) → (0 ≤ (x_101).toInt ∧ (x_101).toInt ≤ 1600) → ((x_100).toInt ≤ (en).toInt) → ((1601 - (x_97).toInt).toNat < n) → ∀ S_102 : dg_S, CX o S_102 → dg_sm shX [(31, 0), (31, 1), (31, 4), (31, 7)] [28] S S_102 → S_102.1 209 4 = .int x_100 → S_102.1 209 7 = .int x_101 → G9X S0 d0 S_102 → (g_it x_99 (x_prod kd vl (x_part kd vl (ru).toInt (x_lv kd vl (ru).toInt (jl + 1)).1 (x_lv kd vl (ru).toInt (jl + 1)).2.1) (n0 : Int32).toNatClampNeg) (g_po kd vl) (x_part kd vl (ru).toInt (x_lv kd vl (ru).toInt (jl + 1)).1 (x_lv kd vl (ru).toInt (jl + 1)).2.1) (1600 - (x_97 : Int32).toInt).toNat (x_100 : Int32).toNatClampNeg) → ((x_98 : Int32).toInt ≠ 0 ↔ g_po kd vl (x_100 : Int32).toNatClampNeg = true) → (((x_99).toInt = 1 → ((sc).toInt + 1 ≤ (x_101).toInt ∧ (x_101).toInt - (sc).toInt ≤ (x_100).toInt - (n0).toInt))) → (m_hid ((x_98 : Int32).toInt ≠ 0 → (x_98 : Int32).toInt = (d_po kd vl) (x_100 : Int32).toNatClampNeg)) → (q_it x_99 gd S S_102 sc (d_prod kd vl (x_part kd vl (ru).toInt (x_lv kd vl (ru).toInt (jl + 1)).1 (x_lv kd vl (ru).toInt (jl + 1)).2.1) (d_part kd vl (x_lv kd vl (ru).toInt (jl + 1)).1 (x_lv kd vl (ru).toInt (jl + 1)).2.1 (d_lv kd vl (ru).toInt (jl + 1)).1 (d_lv kd vl (ru).toInt (jl + 1)).2.1) (n0 : Int32).toNatClampNeg) (g_po kd vl) (x_part kd vl (ru).toInt (x_lv kd vl (ru).toInt (jl + 1)).1 (x_lv kd vl (ru).toInt (jl + 1)).2.1) (d_part kd vl (x_lv kd vl (ru).toInt (jl + 1)).1 (x_lv kd vl (ru).toInt (jl + 1)).2.1 (d_lv kd vl (ru).toInt (jl + 1)).1 (d_lv kd vl (ru).toInt (jl + 1)).2.1) (d_po kd vl) (1600 - (x_97 : Int32).toInt).toNat (x_100 : Int32).toNatClampNeg) → ∀ (H : Heap) (locs : List Loc), va_P D vwCl (dg_w g shX o rfX S_102) H → va_S A s.heap H locs → ∀ ls : Array Slot, lv_has ls 5 [(4, .int x_97), (3, .int x_98), (2, .int x_99), (0, .ref (o + 209)), (1, .int dp)] → W p l e ({ frames := 8 * jl + 14, cells := 0, slots := 0, locals := 183 * jl + 324 } : Room) s m args below meth c H locs 0 0 (MQ below (va_Qi (fun (r : Int32) S' => CX o S' ∧ dg_sm shX [(31, 0), (31, 1), (31, 4), (31, 7)] [28] S S' ∧ (0 ≤ (r).toInt ∧ (r).toInt ≤ 1) ∧ (m_hid ((r).toInt = 1 → q_as gd S S' sc (d_prod kd vl (x_part kd vl (ru).toInt (x_lv kd vl (ru).toInt (jl + 1)).1 (x_lv kd vl (ru).toInt (jl + 1)).2.1) (d_part kd vl (x_lv kd vl (ru).toInt (jl + 1)).1 (x_lv kd vl (ru).toInt (jl + 1)).2.1 (d_lv kd vl (ru).toInt (jl + 1)).1 (d_lv kd vl (ru).toInt (jl + 1)).2.1) (n0 : Int32).toNatClampNeg))) ∧ (∃ y9_4 y9_7 : Int32, S'.1 209 4 = .int y9_4 ∧ S'.1 209 7 = .int y9_7 ∧ (((y9_4).toInt ≤ (en).toInt ∧ ((r).toInt = 1 → ((sc).toInt + 1 ≤ (y9_7).toInt ∧ (y9_7).toInt - (sc).toInt ≤ (y9_4).toInt - (n0).toInt))) ∧ g_ans r (x_prod kd vl (x_part kd vl (ru).toInt (x_lv kd vl (ru).toInt (jl + 1)).1 (x_lv kd vl (ru).toInt (jl + 1)).2.1) (n0 : Int32).toNatClampNeg) (y9_4 : Int32).toNatClampNeg)) ∧ G9X S0 d0 S' ∧ True) (dg_B g D shX o rfX) A) args s 0 0 A) (F0 m 14 ls []) := by
    as_aux_lemma =>
      intro n
      induction n with
      | zero =>
        intro x_97 x_98 x_99 x_100 x_101 b_x_97 b_x_98 b_x_99 b_x_100 b_x_101 rel_0 hmu S_102 I_102 M_102 ff_102_4_209 ff_102_7_209 G9_102 srel_102_0 srel_102_1 srel_102_2 srel_102_3 srel_102_4 H locs hP hS ls hl
        omega
      | succ n ih =>
        as_aux_lemma =>
          intro x_97 x_98 x_99 x_100 x_101 b_x_97 b_x_98 b_x_99 b_x_100 b_x_101 rel_0 hmu S_102 I_102 M_102 ff_102_4_209 ff_102_7_209 G9_102 srel_102_0 srel_102_1 srel_102_2 srel_102_3 srel_102_4 H locs hP hS ls hl
          refine lv_iload hx hb dX6_readProduct_14 (lv_at hl 0 rfl) ?_
          refine lv_sipush (v := 1600) hx hb dX6_readProduct_16 (by decide +kernel) ?_
          refine lv_icmp_ge (tgt := 56) hx hb dX6_readProduct_19 (dk_dq rfl) (fun c_104 => ?_) (fun c_104 => ?_)
          · have jc_104 := dk_gec (k := 1600) (by decide +kernel) c_104
            refine lv_iload_n hx hb dX6_readProduct_56 rfl (lv_at hl 2 rfl) ?_
            refine W.widen (k := 0) (n := 0) (Nat.le_of_ble_eq_true rfl) (Nat.le_of_ble_eq_true rfl) ?_
            exact dg_iret hx hb hr hlocks (dk_znar2 (by omega)) hP hS ⟨I_102, M_102, (by omega), (m_hid.mk (q_it.stop srel_102_4 (fun _ => Or.inl (by omega)))), ⟨x_100, x_101, ff_102_4_209, ff_102_7_209, ⟨⟨by omega, by omega⟩, g_it.stop srel_102_0 (fun _ => Or.inl (by omega))⟩⟩, G9_102, trivial⟩ dX6_readProduct_57
          · as_aux_lemma =>
              have jc_104 := dk_ngec (k := 1600) (by decide +kernel) c_104
              refine lv_iload_n hx hb dX6_readProduct_22 rfl (lv_at hl 2 rfl) ?_
              refine lv_if_eq (tgt := 56) hx hb dX6_readProduct_23 (dk_dq rfl) (fun c_105 => ?_) (fun c_105 => ?_)
              · have jc_105 := dk_eqc (k := 0) (by decide +kernel) c_105
                refine lv_iload_n hx hb dX6_readProduct_56 rfl (lv_at hl 2 rfl) ?_
                refine W.widen (k := 0) (n := 0) (Nat.le_of_ble_eq_true rfl) (Nat.le_of_ble_eq_true rfl) ?_
                exact dg_iret hx hb hr hlocks (dk_znar2 (by omega)) hP hS ⟨I_102, M_102, (by omega), (m_hid.mk (fun q9 => absurd q9 (by omega))), ⟨x_100, x_101, ff_102_4_209, ff_102_7_209, ⟨⟨by omega, by omega⟩, g_it.stop srel_102_0 (fun h9 => absurd h9 (by omega))⟩⟩, G9_102, trivial⟩ dX6_readProduct_57
              · as_aux_lemma =>
                  have jc_105 := dk_neqc (k := 0) (by decide +kernel) c_105
                  refine lv_iload_n hx hb dX6_readProduct_26 rfl (lv_at hl 1 rfl) ?_
                  refine lv_if_eq (tgt := 56) hx hb dX6_readProduct_27 (dk_dq rfl) (fun c_106 => ?_) (fun c_106 => ?_)
                  · have jc_106 := dk_eqc (k := 0) (by decide +kernel) c_106
                    have qsrel_102_1 : g_po kd vl (x_100 : Int32).toNatClampNeg = false := by have h9 := g_iff_f srel_102_1 (by omega); exact h9
                    refine lv_iload_n hx hb dX6_readProduct_56 rfl (lv_at hl 2 rfl) ?_
                    refine W.widen (k := 0) (n := 0) (Nat.le_of_ble_eq_true rfl) (Nat.le_of_ble_eq_true rfl) ?_
                    exact dg_iret hx hb hr hlocks (dk_znar2 (by omega)) hP hS ⟨I_102, M_102, (by omega), (m_hid.mk (q_it.stop srel_102_4 (fun _ => Or.inr qsrel_102_1))), ⟨x_100, x_101, ff_102_4_209, ff_102_7_209, ⟨⟨by omega, by omega⟩, g_it.stop srel_102_0 (fun _ => Or.inr qsrel_102_1)⟩⟩, G9_102, trivial⟩ dX6_readProduct_57
                  · as_aux_lemma =>
                      have jc_106 := dk_neqc (k := 0) (by decide +kernel) c_106
                      have qsrel_102_1 : g_po kd vl (x_100 : Int32).toNatClampNeg = true := by have h9 := srel_102_1.mp (by omega); exact h9
                      refine lv_aload_n hx hb dX6_readProduct_30 rfl (lv_at hl 3 rfl) ?_
                      refine dg_callv hS hA1 hA (va_runV (As := []) (rest := []) F (c_rd_pass l g D o S_102 en kd vl x_100 ff_102_4_209 (by omega) ke ((congrFun (M_102.2 211 _ sX_211 (dk_dq rfl)).1 _).trans f_ke) (by omega) (by omega) (fun k9 h9 => (congrFun (M_102.2 211 _ sX_211 (dk_dq rfl)).1 k9).trans (hkd k9 h9)) (fun k9 h9 => (congrFun (M_102.2 213 _ sX_213 (dk_dq rfl)).1 k9).trans (hvl k9 h9)) I_102 H.size) (cwV 0 hts (bw_V wB_26 wB_27 wB_28 wB_24 wB_25) rfl rfl rfl (by decide +kernel) ⟨by dsimp only; omega, by dsimp only; omega⟩) (dg_preV sX_209 rfl K ST hP hS hA1 hA) rfl rfl hl.1 rfl (lv_room (Nat.le_of_ble_eq_true rfl)) dX6_readProduct_31 ⟨Nat.le_of_ble_eq_true rfl, Nat.le_of_ble_eq_true rfl⟩) (fun S_107 hw_107 H locs hP hS => ?_)
                      obtain ⟨I_107, m_107, w_107_0, -⟩ := hw_107
                      have M_107 := dg_sm.tr M_102 m_107 (dk_dq rfl) (dk_dq rfl)
                      obtain ⟨y_108, f_y_108, w_107_0⟩ := w_107_0
                      have w_107_0 : (y_108).toInt ≤ (en).toInt ∧ ((kd (x_100 : Int32).toNatClampNeg).toInt ≠ 0 → (y_108 : Int32).toNatClampNeg = (x_100 : Int32).toNatClampNeg + 1) := w_107_0
                      have b_y_108 : 0 ≤ (y_108).toInt ∧ (y_108).toInt ≤ 1600 := dg_I.intb (lo := 0) (hi := 1600) I_107 sX_209 (by decide +kernel) f_y_108
                      have nq_y_108 : (y_108 : Int32).toNatClampNeg = (x_100 : Int32).toNatClampNeg + 1 := by have h9 := w_107_0.2 (g_po_ne qsrel_102_1); omega
                      have ni_y_108 : (y_108).toInt = (x_100).toInt + 1 := by have h8 := dk_clN y_108; have h9 := dk_clN x_100; omega
                      refine lv_aload_n hx hb dX6_readProduct_34 rfl (lv_at hl 3 rfl) ?_
                      refine lv_iload_n hx hb dX6_readProduct_35 rfl (lv_at hl 4 rfl) ?_
                      refine dg_calli hS hA1 hA (va_runV (As := [.int dp]) (rest := []) F (cg_readPart jl dp dq hdp hdq hLT hLS hLF l g D o S_107 en kd vl S0 d0 gd hk_gd (((m_107.1 209 3 _ sX_209 (dk_dq rfl)).trans (M_102.1 209 3 _ sX_209 (dk_dq rfl))).trans f_gd) y_108 f_y_108 (by omega) ru (((m_107.1 209 6 _ sX_209 (dk_dq rfl)).trans (M_102.1 209 6 _ sX_209 (dk_dq rfl))).trans f_ru) (by omega) x_101 ((m_107.1 209 7 _ sX_209 (dk_dq rfl)).trans ff_102_7_209) (by omega) ke ((congrFun ((m_107.2 211 _ sX_211 (dk_dq rfl)).1.trans (M_102.2 211 _ sX_211 (dk_dq rfl)).1) _).trans f_ke) (by omega) (by omega) (fun k9 h9 => (congrFun ((m_107.2 211 _ sX_211 (dk_dq rfl)).1.trans (M_102.2 211 _ sX_211 (dk_dq rfl)).1) k9).trans (hkd k9 h9)) (fun k9 h9 => (congrFun ((m_107.2 213 _ sX_213 (dk_dq rfl)).1.trans (M_102.2 213 _ sX_213 (dk_dq rfl)).1) k9).trans (hvl k9 h9)) (by omega) hd0 (G9X.keep G9_102 m_107 (dk_dq rfl)) I_107 H.size) (cwV 1 hts (bw_V wB_112 wB_113 wB_114 wB_24 wB_111) rfl rfl rfl (by decide +kernel) ⟨by dsimp only; omega, by dsimp only; omega⟩) (dg_preV sX_209 rfl K ST hP hS hA1 hA) rfl rfl hl.1 rfl (lv_room (Nat.le_of_ble_eq_true rfl)) dX6_readProduct_36 ⟨Nat.le_of_ble_eq_true rfl, Nat.le_of_ble_eq_true rfl⟩) (fun x_109 S_110 hw_110 H locs hP hS => ?_)
                      obtain ⟨I_110, m_110, w_110_0, w_110_1, w_110_2, w_110_3, -⟩ := hw_110
                      have M_110 := dg_sm.tr M_107 m_110 (dk_dq rfl) (dk_dq rfl)
                      have w_110_0 : 0 ≤ (x_109).toInt ∧ (x_109).toInt ≤ 1 := w_110_0
                      replace w_110_1 : m_hid ((x_109).toInt = 1 → q_as gd S_107 S_110 x_101 (d_part kd vl (x_lv kd vl (ru).toInt (jl + 1)).1 (x_lv kd vl (ru).toInt (jl + 1)).2.1 (d_lv kd vl (ru).toInt (jl + 1)).1 (d_lv kd vl (ru).toInt (jl + 1)).2.1 (y_108 : Int32).toNatClampNeg)) := w_110_1
                      have ap_110 : m_hid ((x_109).toInt = 1 → q_as gd S_102 S_110 x_101 (d_part kd vl (x_lv kd vl (ru).toInt (jl + 1)).1 (x_lv kd vl (ru).toInt (jl + 1)).2.1 (d_lv kd vl (ru).toInt (jl + 1)).1 (d_lv kd vl (ru).toInt (jl + 1)).2.1 ((x_100 : Int32).toNatClampNeg + 1))) := m_hid.mk (fun q9 => (q_as.fst (m_107.2 (gd + 9) _ (rX_9 gd hk_gd) (dk_dq rfl)).1 (by have h9 := w_110_1.out q9; rw [nq_y_108] at h9; exact h9)))
                      obtain ⟨y_111, y_112, f_y_111, f_y_112, w_110_2⟩ := w_110_2
                      have w_110_2 : ((y_111).toInt ≤ (en).toInt ∧ ((x_109).toInt = 1 → ((x_101).toInt + 1 ≤ (y_112).toInt ∧ (y_112).toInt - (x_101).toInt ≤ (y_111).toInt - (y_108).toInt))) ∧ g_ans x_109 (x_part kd vl (ru).toInt (x_lv kd vl (ru).toInt (jl + 1)).1 (x_lv kd vl (ru).toInt (jl + 1)).2.1 (y_108 : Int32).toNatClampNeg) (y_111 : Int32).toNatClampNeg := w_110_2
                      have b_y_111 : 0 ≤ (y_111).toInt ∧ (y_111).toInt ≤ 1600 := dg_I.intb (lo := 0) (hi := 1600) I_110 sX_209 (by decide +kernel) f_y_111
                      have b_y_112 : 0 ≤ (y_112).toInt ∧ (y_112).toInt ≤ 1600 := dg_I.intb (lo := 0) (hi := 1600) I_110 sX_209 (by decide +kernel) f_y_112
                      refine lv_istore_n (lv' := [(2, .int x_109), (4, .int x_97), (3, .int x_98), (0, .ref (o + 209)), (1, .int dp)]) hx hb dX6_readProduct_39 rfl hl (dk_dq rfl) rfl (fun ls hl => ?_)
                      refine lv_aload_n hx hb dX6_readProduct_40 rfl (lv_at hl 3 rfl) ?_
                      refine lv_iload_n hx hb dX6_readProduct_41 rfl (lv_at hl 2 rfl) ?_
                      refine dg_callv hS hA1 hA (va_runV (As := [.int x_98]) (rest := []) F (c_rd_put l g D o S_110 x_98 en S0 d0 gd hk_gd (((m_110.1 209 3 _ sX_209 (dk_dq rfl)).trans ((m_107.1 209 3 _ sX_209 (dk_dq rfl)).trans (M_102.1 209 3 _ sX_209 (dk_dq rfl)))).trans f_gd) y_111 f_y_111 (by omega) y_112 f_y_112 (by omega) ke ((congrFun ((m_110.2 211 _ sX_211 (dk_dq rfl)).1.trans ((m_107.2 211 _ sX_211 (dk_dq rfl)).1.trans (M_102.2 211 _ sX_211 (dk_dq rfl)).1)) _).trans f_ke) (by omega) (by omega) hd0 w_110_3 I_110 H.size) (cwV 1 hts (bw_V wB_96 wB_97 wB_98 wB_24 wB_95) rfl rfl rfl (by decide +kernel) ⟨by dsimp only; omega, by dsimp only; omega⟩) (dg_preV sX_209 rfl K ST hP hS hA1 hA) rfl rfl hl.1 rfl (lv_room (Nat.le_of_ble_eq_true rfl)) dX6_readProduct_42 ⟨Nat.le_of_ble_eq_true rfl, Nat.le_of_ble_eq_true rfl⟩) (fun S_113 hw_113 H locs hP hS => ?_)
                      obtain ⟨I_113, m_113, w_113_0, w_113_1, w_113_2, -⟩ := hw_113
                      have M_113 := dg_sm.tr M_110 m_113 (dk_dq rfl) (dk_dq rfl)
                      replace w_113_0 : m_hid ((y_112).toInt < 1600 → q_as gd S_110 S_113 y_112 [(x_98).toInt]) := w_113_0
                      have ap_113 : m_hid ((x_109).toInt = 1 → q_as gd S_102 S_113 x_101 (d_part kd vl (x_lv kd vl (ru).toInt (jl + 1)).1 (x_lv kd vl (ru).toInt (jl + 1)).2.1 (d_lv kd vl (ru).toInt (jl + 1)).1 (d_lv kd vl (ru).toInt (jl + 1)).2.1 ((x_100 : Int32).toNatClampNeg + 1) ++ [(x_98).toInt])) := m_hid.mk (fun q9 => (q_as.tr (ap_110.out q9) rfl rfl f_y_112 (by have h9 := w_113_0.out (by omega); exact h9)))
                      obtain ⟨y_114, f_y_114, w_113_1⟩ := w_113_1
                      have w_113_1 : (y_112).toInt < 1600 → (y_114).toInt = (y_112).toInt + 1 := w_113_1
                      have b_y_114 : 0 ≤ (y_114).toInt ∧ (y_114).toInt ≤ 1600 := dg_I.intb (lo := 0) (hi := 1600) I_113 sX_209 (by decide +kernel) f_y_114
                      refine lv_aload_n hx hb dX6_readProduct_45 rfl (lv_at hl 3 rfl) ?_
                      refine dg_calli hS hA1 hA (va_runV (As := []) (rest := []) F (c_rd_productStep l g D o S_113 en kd vl y_111 ((m_113.1 209 4 _ sX_209 (dk_dq rfl)).trans f_y_111) (by omega) ke ((congrFun ((m_113.2 211 _ sX_211 (dk_dq rfl)).1.trans ((m_110.2 211 _ sX_211 (dk_dq rfl)).1.trans ((m_107.2 211 _ sX_211 (dk_dq rfl)).1.trans (M_102.2 211 _ sX_211 (dk_dq rfl)).1))) _).trans f_ke) (by omega) (by omega) (fun k9 h9 => (congrFun ((m_113.2 211 _ sX_211 (dk_dq rfl)).1.trans ((m_110.2 211 _ sX_211 (dk_dq rfl)).1.trans ((m_107.2 211 _ sX_211 (dk_dq rfl)).1.trans (M_102.2 211 _ sX_211 (dk_dq rfl)).1))) k9).trans (hkd k9 h9)) (fun k9 h9 => (congrFun ((m_113.2 213 _ sX_213 (dk_dq rfl)).1.trans ((m_110.2 213 _ sX_213 (dk_dq rfl)).1.trans ((m_107.2 213 _ sX_213 (dk_dq rfl)).1.trans (M_102.2 213 _ sX_213 (dk_dq rfl)).1))) k9).trans (hvl k9 h9)) I_113 H.size) (cwV 0 hts (bw_V wB_116 wB_117 wB_118 wB_24 wB_115) rfl rfl rfl (by decide +kernel) ⟨by dsimp only; omega, by dsimp only; omega⟩) (dg_preV sX_209 rfl K ST hP hS hA1 hA) rfl rfl hl.1 rfl (lv_room (Nat.le_of_ble_eq_true rfl)) dX6_readProduct_46 ⟨Nat.le_of_ble_eq_true rfl, Nat.le_of_ble_eq_true rfl⟩) (fun x_115 S_116 hw_116 H locs hP hS => ?_)
                      rw [hw_116.1] at hP
                      obtain ⟨hq_116, w_116_0, w_116_1, w_116_2, -⟩ := hw_116
                      have w_116_0 : (-14) ≤ (x_115).toInt ∧ (x_115).toInt ≤ 0 := w_116_0
                      have w_116_1 : m_hid ((x_115).toInt ≠ 0 → (x_115).toInt = d_po kd vl ((y_111 : Int32).toNatClampNeg)) := w_116_1
                      have w_116_2 : (x_115).toInt ≠ 0 ↔ g_po kd vl (y_111 : Int32).toNatClampNeg = true := w_116_2
                      have v5_x_115 : m_hid ((x_115).toInt ≠ 0 → (x_115).toInt = d_po kd vl ((y_111 : Int32).toNatClampNeg)) := m_hid.mk (by have h9 := w_116_1.out; exact h9)
                      refine lv_istore_n (lv' := [(3, .int x_115), (2, .int x_109), (4, .int x_97), (0, .ref (o + 209)), (1, .int dp)]) hx hb dX6_readProduct_49 rfl hl (dk_dq rfl) rfl (fun ls hl => ?_)
                      obtain ⟨x_117, ex_117⟩ : ∃ z, z = x_97 + 1 := ⟨_, rfl⟩
                      have jx_117 : (x_117).toInt = (x_97).toInt + 1 := by rw [ex_117]; exact dk_addT2 rfl (by decide +kernel) (by omega)
                      refine lv_iinc (v := x_117) (lv' := [(4, .int x_117), (3, .int x_115), (2, .int x_109), (0, .ref (o + 209)), (1, .int dp)]) hx hb dX6_readProduct_50 hl (k := 2) rfl (by rw [ex_117]; rfl) (dk_dq rfl) rfl (fun ls hl => ?_)
                      refine lv_goto (tgt := 14) hx hb dX6_readProduct_53 (dk_dq rfl) ?_
                      exact ih x_117 x_115 x_109 y_111 y_114 (by omega) (by omega) (by omega) (by omega) (by omega) (by omega) (by first | exact mu_lt hmu (by omega) (by omega) | omega) S_113 I_113 M_113 ((m_113.1 209 4 _ sX_209 (dk_dq rfl)).trans f_y_111) f_y_114 w_113_2 (g_it.step srel_102_0 (by omega) (by omega) qsrel_102_1 (by have h9 := w_110_2.2; rw [nq_y_108] at h9; exact h9)) w_116_2 (by omega) v5_x_115 (q_it.step srel_102_4 (by omega) (by omega) qsrel_102_1 (by have h9 := w_110_2.2; rw [nq_y_108] at h9; exact h9) ff_102_7_209 ap_113.out (srel_102_3.out (by omega))) _ _ hP hS _ (lv_sub hl [0, 1, 2, 3, 4] rfl)
  have hz_118 : (0 : Int32).toInt = 0 := by decide +kernel
  have hz_119 : (0 : Int32).toInt = 0 := by decide +kernel
  have hz_120 : (0 : Int32).toInt = 0 := by decide +kernel
  exact L_103 ((1601 - ((0 : Int32)).toInt).toNat + 1) 0 x_5 x_1 y_3 y_4 (by decide +kernel) (by omega) (by omega) (by omega) (by omega) (by omega) (by first | exact mu_lt hmu (by omega) (by omega) | omega) S_2 I_2 M_2 f_y_3 f_y_4 w_2_3 (by rw [show (1600 - (0 : Int32).toInt).toNat = 1600 from by decide +kernel]; exact g_it.start w_2_2.2) w_6_2 (by omega) v5_x_5 (by rw [show (1600 - (0 : Int32).toInt).toNat = 1600 from by decide +kernel]; exact q_it.start d_prod_e w_2_2.2 ap_2.out) _ _ hP hS _ (lv_sub hl [0, 1, 2, 3, 4] rfl)
set_option maxHeartbeats 8000000 in
set_option maxRecDepth 100000 in
theorem cg_readSum (jl : Nat) (dp dq : Int32) (hdp : dp < 7) (hdq : dp + 1 = dq) (hLT : lvT dq jl) (hLS : lvS dq jl) (hLF : lvF dq jl) (l : Launch) (g : Nat → ClassId) (D : va_G) (o : Nat) (S : dg_S) (en : Int32) (kd : Nat → Int32) (vl : Nat → Int32) (S0 : dg_S) (d0 : Nat) (gd : Nat) (hk_gd : rX gd) (f_gd : S.1 209 3 = .ref (o + gd)) (n0 : Int32) (f_n0 : S.1 209 4 = .int n0) (b_n0 : 0 ≤ (n0).toInt ∧ (n0).toInt ≤ 1600) (ru : Int32) (f_ru : S.1 209 6 = .int ru) (b_ru : 0 ≤ (ru).toInt ∧ (ru).toInt ≤ 2) (sc : Int32) (f_sc : S.1 209 7 = .int sc) (b_sc : 0 ≤ (sc).toInt ∧ (sc).toInt ≤ 1600) (ke : Int32) (f_ke : S.2.1 211 (en : Int32).toNatClampNeg = ke) (b_ke : 0 ≤ (ke).toInt ∧ (ke).toInt ≤ 0) (hne : (n0).toInt ≤ (en).toInt ∧ (en).toInt ≤ 1600 ∧ 0 ≤ (en).toInt) (hkd : ∀ k9 : Nat, k9 ≤ (en : Int32).toNatClampNeg → S.2.1 211 k9 = kd k9) (hvl : ∀ k9 : Nat, k9 ≤ (en : Int32).toNatClampNeg → S.2.1 213 k9 = vl k9) (hsc : (sc).toInt ≤ (n0).toInt) (hd0 : d0 ≠ gd) (G9 : G9X S0 d0 S) (I : CX o S) (sz : Nat) : Met l yX6_readSum (bw yX6_readSum cX6_readSum 5 (some .boolean)) ({ frames := 8 * jl + 15, cells := 0, slots := 0, locals := 183 * jl + 348 } : Room) (dk_Pc g D (dg_w g shX o rfX S) sz [.ref (o + 209), .int dp]) (va_Qi (fun (r : Int32) S' => CX o S' ∧ dg_sm shX [(31, 0), (31, 1), (31, 4), (31, 7)] [28] S S' ∧ (0 ≤ (r).toInt ∧ (r).toInt ≤ 1) ∧ (m_hid ((r).toInt = 1 → q_as gd S S' sc ((d_lv kd vl (ru).toInt (jl + 2)).1 (n0 : Int32).toNatClampNeg))) ∧ (∃ y9_4 y9_7 : Int32, S'.1 209 4 = .int y9_4 ∧ S'.1 209 7 = .int y9_7 ∧ (((y9_4).toInt ≤ (en).toInt ∧ ((r).toInt = 1 → ((sc).toInt + 1 ≤ (y9_7).toInt ∧ (y9_7).toInt - (sc).toInt ≤ (y9_4).toInt - (n0).toInt))) ∧ g_ans r ((x_lv kd vl (ru).toInt (jl + 2)).1 (n0 : Int32).toNatClampNeg) (y9_4 : Int32).toNatClampNeg)) ∧ G9X S0 d0 S' ∧ True) (dg_B g D shX o rfX) (dg_A o shX.length sz)) 0 0 (dg_A o shX.length sz) := by
  refine dg_met (cc := cX6_readSum) (maxL := 5) (ret := (some .boolean)) (dk_dq rfl) rfl (Nat.le_of_ble_eq_true rfl) ?_
  intro p e s m args below meth c A hAe harg hx hb hr hml hts hown hlocks hin hP K hS hA1 hA ST hsz ls hl
  rw [← hAe]
  have F : CallFix p m c cX6_readSum 5 s args (bw yX6_readSum cX6_readSum 5 (some .boolean)) RX6 := ⟨hx, hb, hml, hown, hts⟩
  have hl : lv_has ls 5 [(0, .ref (o + 209)), (1, .int dp)] := hl
  have M_0 : dg_sm shX [(31, 0), (31, 1), (31, 4), (31, 7)] [28] S S := dg_sm.rf
  refine lv_aload_n hx hb dX6_readSum_0 rfl (lv_at hl 0 rfl) ?_
  refine lv_iload_n hx hb dX6_readSum_1 rfl (lv_at hl 1 rfl) ?_
  refine dg_calli hS hA1 hA (va_runV (As := [.int dp]) (rest := []) F (cg_readProduct jl dp dq hdp hdq hLT hLS hLF l g D o S en kd vl S0 d0 gd hk_gd f_gd n0 f_n0 (by omega) ru f_ru (by omega) sc f_sc (by omega) ke f_ke (by omega) (by omega) hkd hvl (by omega) hd0 G9 I s.heap.size) (cwV 1 hts (bw_V wB_120 wB_121 wB_122 wB_24 wB_119) rfl rfl rfl (by decide +kernel) ⟨by dsimp only; omega, by dsimp only; omega⟩) (dg_preV sX_209 rfl K ST hP hS hA1 hA) rfl rfl hl.1 rfl (lv_room (Nat.le_of_ble_eq_true rfl)) dX6_readSum_2 ⟨Nat.le_of_ble_eq_true rfl, Nat.le_of_ble_eq_true rfl⟩) (fun x_1 S_2 hw_2 H locs hP hS => ?_)
  obtain ⟨I_2, m_2, w_2_0, w_2_1, w_2_2, w_2_3, -⟩ := hw_2
  have M_2 := dg_sm.tr M_0 m_2 (dk_dq rfl) (dk_dq rfl)
  have w_2_0 : 0 ≤ (x_1).toInt ∧ (x_1).toInt ≤ 1 := w_2_0
  replace w_2_1 : m_hid ((x_1).toInt = 1 → q_as gd S S_2 sc (d_prod kd vl (x_part kd vl (ru).toInt (x_lv kd vl (ru).toInt (jl + 1)).1 (x_lv kd vl (ru).toInt (jl + 1)).2.1) (d_part kd vl (x_lv kd vl (ru).toInt (jl + 1)).1 (x_lv kd vl (ru).toInt (jl + 1)).2.1 (d_lv kd vl (ru).toInt (jl + 1)).1 (d_lv kd vl (ru).toInt (jl + 1)).2.1) (n0 : Int32).toNatClampNeg)) := w_2_1
  have ap_2 : m_hid ((x_1).toInt = 1 → q_as gd S S_2 sc (d_prod kd vl (x_part kd vl (ru).toInt (x_lv kd vl (ru).toInt (jl + 1)).1 (x_lv kd vl (ru).toInt (jl + 1)).2.1) (d_part kd vl (x_lv kd vl (ru).toInt (jl + 1)).1 (x_lv kd vl (ru).toInt (jl + 1)).2.1 (d_lv kd vl (ru).toInt (jl + 1)).1 (d_lv kd vl (ru).toInt (jl + 1)).2.1) (n0 : Int32).toNatClampNeg)) := m_hid.mk (fun q9 => (by have h9 := w_2_1.out q9; exact h9))
  obtain ⟨y_3, y_4, f_y_3, f_y_4, w_2_2⟩ := w_2_2
  have w_2_2 : ((y_3).toInt ≤ (en).toInt ∧ ((x_1).toInt = 1 → ((sc).toInt + 1 ≤ (y_4).toInt ∧ (y_4).toInt - (sc).toInt ≤ (y_3).toInt - (n0).toInt))) ∧ g_ans x_1 (x_prod kd vl (x_part kd vl (ru).toInt (x_lv kd vl (ru).toInt (jl + 1)).1 (x_lv kd vl (ru).toInt (jl + 1)).2.1) (n0 : Int32).toNatClampNeg) (y_3 : Int32).toNatClampNeg := w_2_2
  have b_y_3 : 0 ≤ (y_3).toInt ∧ (y_3).toInt ≤ 1600 := dg_I.intb (lo := 0) (hi := 1600) I_2 sX_209 (by decide +kernel) f_y_3
  have b_y_4 : 0 ≤ (y_4).toInt ∧ (y_4).toInt ≤ 1600 := dg_I.intb (lo := 0) (hi := 1600) I_2 sX_209 (by decide +kernel) f_y_4
  refine lv_istore_n (lv' := [(2, .int x_1), (0, .ref (o + 209)), (1, .int dp)]) hx hb dX6_readSum_5 rfl hl (dk_dq rfl) rfl (fun ls hl => ?_)
  refine lv_aload_n hx hb dX6_readSum_6 rfl (lv_at hl 1 rfl) ?_
  refine dg_calli hS hA1 hA (va_runV (As := []) (rest := []) F (c_rd_sumStep l g D o S_2 en kd vl y_3 f_y_3 (by omega) ke ((congrFun (m_2.2 211 _ sX_211 (dk_dq rfl)).1 _).trans f_ke) (by omega) (by omega) (fun k9 h9 => (congrFun (m_2.2 211 _ sX_211 (dk_dq rfl)).1 k9).trans (hkd k9 h9)) (fun k9 h9 => (congrFun (m_2.2 213 _ sX_213 (dk_dq rfl)).1 k9).trans (hvl k9 h9)) I_2 H.size) (cwV 0 hts (bw_V wB_124 wB_125 wB_126 wB_24 wB_123) rfl rfl rfl (by decide +kernel) ⟨by dsimp only; omega, by dsimp only; omega⟩) (dg_preV sX_209 rfl K ST hP hS hA1 hA) rfl rfl hl.1 rfl (lv_room (Nat.le_of_ble_eq_true rfl)) dX6_readSum_7 ⟨Nat.le_of_ble_eq_true rfl, Nat.le_of_ble_eq_true rfl⟩) (fun x_5 S_6 hw_6 H locs hP hS => ?_)
  rw [hw_6.1] at hP
  obtain ⟨hq_6, w_6_0, w_6_1, w_6_2, -⟩ := hw_6
  have w_6_0 : (-11) ≤ (x_5).toInt ∧ (x_5).toInt ≤ 0 := w_6_0
  have w_6_1 : m_hid ((x_5).toInt ≠ 0 → (x_5).toInt = d_so kd vl ((y_3 : Int32).toNatClampNeg)) := w_6_1
  have w_6_2 : (x_5).toInt ≠ 0 ↔ g_so kd vl (y_3 : Int32).toNatClampNeg = true := w_6_2
  have v5_x_5 : m_hid ((x_5).toInt ≠ 0 → (x_5).toInt = d_so kd vl ((y_3 : Int32).toNatClampNeg)) := m_hid.mk (by have h9 := w_6_1.out; exact h9)
  refine lv_istore_n (lv' := [(3, .int x_5), (2, .int x_1), (0, .ref (o + 209)), (1, .int dp)]) hx hb dX6_readSum_10 rfl hl (dk_dq rfl) rfl (fun ls hl => ?_)
  refine lv_iconst (v := 0) hx hb dX6_readSum_11 (by decide +kernel) ?_
  refine lv_istore (lv' := [(4, .int 0), (3, .int x_5), (2, .int x_1), (0, .ref (o + 209)), (1, .int dp)]) hx hb dX6_readSum_12 hl (dk_dq rfl) rfl (fun ls hl => ?_)
  have L_103 : ∀ (n : Nat) (x_97 : Int32) (x_98 : Int32) (x_99 : Int32) (x_100 : Int32) (x_101 : Int32), (0 ≤ (x_97).toInt ∧ (x_97).toInt ≤ 1600) → ((-11) ≤ (x_98).toInt ∧ (x_98).toInt ≤ 0) → (0 ≤ (x_99).toInt ∧ (x_99).toInt ≤ 1) → (0 ≤ (x_100).toInt ∧ (x_100).toInt ≤ 1600) → (0 ≤ (x_101).toInt ∧ (x_101).toInt ≤ 1600) → ((x_100).toInt ≤ (en).toInt) → ((1601 - (x_97).toInt).toNat < n) → ∀ S_102 : dg_S, CX o S_102 → dg_sm shX [(31, 0), (31, 1), (31, 4), (31, 7)] [28] S S_102 → S_102.1 209 4 = .int x_100 → S_102.1 209 7 = .int x_101 → G9X S0 d0 S_102 → (g_it x_99 (x_sum kd vl (x_part kd vl (ru).toInt (x_lv kd vl (ru).toInt (jl + 1)).1 (x_lv kd vl (ru).toInt (jl + 1)).2.1) (n0 : Int32).toNatClampNeg) (g_so kd vl) (x_prod kd vl (x_part kd vl (ru).toInt (x_lv kd vl (ru).toInt (jl + 1)).1 (x_lv kd vl (ru).toInt (jl + 1)).2.1)) (1600 - (x_97 : Int32).toInt).toNat (x_100 : Int32).toNatClampNeg) → ((x_98 : Int32).toInt ≠ 0 ↔ g_so kd vl (x_100 : Int32).toNatClampNeg = true) → (((x_99).toInt = 1 → ((sc).toInt + 1 ≤ (x_101).toInt ∧ (x_101).toInt - (sc).toInt ≤ (x_100).toInt - (n0).toInt))) → (m_hid ((x_98 : Int32).toInt ≠ 0 → (x_98 : Int32).toInt = (d_so kd vl) (x_100 : Int32).toNatClampNeg)) → (q_it x_99 gd S S_102 sc (d_sum kd vl (x_part kd vl (ru).toInt (x_lv kd vl (ru).toInt (jl + 1)).1 (x_lv kd vl (ru).toInt (jl + 1)).2.1) (d_part kd vl (x_lv kd vl (ru).toInt (jl + 1)).1 (x_lv kd vl (ru).toInt (jl + 1)).2.1 (d_lv kd vl (ru).toInt (jl + 1)).1 (d_lv kd vl (ru).toInt (jl + 1)).2.1) (n0 : Int32).toNatClampNeg) (g_so kd vl) (x_prod kd vl (x_part kd vl (ru).toInt (x_lv kd vl (ru).toInt (jl + 1)).1 (x_lv kd vl (ru).toInt (jl + 1)).2.1)) (d_prod kd vl (x_part kd vl (ru).toInt (x_lv kd vl (ru).toInt (jl + 1)).1 (x_lv kd vl (ru).toInt (jl + 1)).2.1) (d_part kd vl (x_lv kd vl (ru).toInt (jl + 1)).1 (x_lv kd vl (ru).toInt (jl + 1)).2.1 (d_lv kd vl (ru).toInt (jl + 1)).1 (d_lv kd vl (ru).toInt (jl + 1)).2.1)) (d_so kd vl) (1600 - (x_97 : Int32).toInt).toNat (x_100 : Int32).toNatClampNeg) → ∀ (H : Heap) (locs : List Loc), va_P D vwCl (dg_w g shX o rfX S_102) H → va_S A s.heap H locs → ∀ ls : Array Slot, lv_has ls 5 [(4, .int x_97), (3, .int x_98), (2, .int x_99), (0, .ref (o + 209)), (1, .int dp)] → W p l e ({ frames := 8 * jl + 15, cells := 0, slots := 0, locals := 183 * jl + 348 } : Room) s m args below meth c H locs 0 0 (MQ below (va_Qi (fun (r : Int32) S' => CX o S' ∧ dg_sm shX [(31, 0), (31, 1), (31, 4), (31, 7)] [28] S S' ∧ (0 ≤ (r).toInt ∧ (r).toInt ≤ 1) ∧ (m_hid ((r).toInt = 1 → q_as gd S S' sc ((d_lv kd vl (ru).toInt (jl + 2)).1 (n0 : Int32).toNatClampNeg))) ∧ (∃ y9_4 y9_7 : Int32, S'.1 209 4 = .int y9_4 ∧ S'.1 209 7 = .int y9_7 ∧ (((y9_4).toInt ≤ (en).toInt ∧ ((r).toInt = 1 → ((sc).toInt + 1 ≤ (y9_7).toInt ∧ (y9_7).toInt - (sc).toInt ≤ (y9_4).toInt - (n0).toInt))) ∧ g_ans r ((x_lv kd vl (ru).toInt (jl + 2)).1 (n0 : Int32).toNatClampNeg) (y9_4 : Int32).toNatClampNeg)) ∧ G9X S0 d0 S' ∧ True) (dg_B g D shX o rfX) A) args s 0 0 A) (F0 m 14 ls []) := by
    as_aux_lemma =>
      intro n
      induction n with
      | zero =>
        intro x_97 x_98 x_99 x_100 x_101 b_x_97 b_x_98 b_x_99 b_x_100 b_x_101 rel_0 hmu S_102 I_102 M_102 ff_102_4_209 ff_102_7_209 G9_102 srel_102_0 srel_102_1 srel_102_2 srel_102_3 srel_102_4 H locs hP hS ls hl
        omega
      | succ n ih =>
        as_aux_lemma =>
          intro x_97 x_98 x_99 x_100 x_101 b_x_97 b_x_98 b_x_99 b_x_100 b_x_101 rel_0 hmu S_102 I_102 M_102 ff_102_4_209 ff_102_7_209 G9_102 srel_102_0 srel_102_1 srel_102_2 srel_102_3 srel_102_4 H locs hP hS ls hl
          refine lv_iload hx hb dX6_readSum_14 (lv_at hl 0 rfl) ?_
          refine lv_sipush (v := 1600) hx hb dX6_readSum_16 (by decide +kernel) ?_
          refine lv_icmp_ge (tgt := 56) hx hb dX6_readSum_19 (dk_dq rfl) (fun c_104 => ?_) (fun c_104 => ?_)
          · have jc_104 := dk_gec (k := 1600) (by decide +kernel) c_104
            refine lv_iload_n hx hb dX6_readSum_56 rfl (lv_at hl 2 rfl) ?_
            refine W.widen (k := 0) (n := 0) (Nat.le_of_ble_eq_true rfl) (Nat.le_of_ble_eq_true rfl) ?_
            exact dg_iret hx hb hr hlocks (dk_znar2 (by omega)) hP hS ⟨I_102, M_102, (by omega), (m_hid.mk (fun q9 => q_as.to ((q_it.stop srel_102_4 (fun _ => Or.inl (by omega))) q9) (d_lv_s (e := (jl + 1))))), ⟨x_100, x_101, ff_102_4_209, ff_102_7_209, ⟨⟨by omega, by omega⟩, (show g_ans x_99 (x_sum kd vl (x_part kd vl (ru).toInt (x_lv kd vl (ru).toInt (jl + 1)).1 (x_lv kd vl (ru).toInt (jl + 1)).2.1) (n0 : Int32).toNatClampNeg) (x_100 : Int32).toNatClampNeg from g_it.stop srel_102_0 (fun _ => Or.inl (by omega)))⟩⟩, G9_102, trivial⟩ dX6_readSum_57
          · as_aux_lemma =>
              have jc_104 := dk_ngec (k := 1600) (by decide +kernel) c_104
              refine lv_iload_n hx hb dX6_readSum_22 rfl (lv_at hl 2 rfl) ?_
              refine lv_if_eq (tgt := 56) hx hb dX6_readSum_23 (dk_dq rfl) (fun c_105 => ?_) (fun c_105 => ?_)
              · have jc_105 := dk_eqc (k := 0) (by decide +kernel) c_105
                refine lv_iload_n hx hb dX6_readSum_56 rfl (lv_at hl 2 rfl) ?_
                refine W.widen (k := 0) (n := 0) (Nat.le_of_ble_eq_true rfl) (Nat.le_of_ble_eq_true rfl) ?_
                exact dg_iret hx hb hr hlocks (dk_znar2 (by omega)) hP hS ⟨I_102, M_102, (by omega), (m_hid.mk (fun q9 => absurd q9 (by omega))), ⟨x_100, x_101, ff_102_4_209, ff_102_7_209, ⟨⟨by omega, by omega⟩, (show g_ans x_99 (x_sum kd vl (x_part kd vl (ru).toInt (x_lv kd vl (ru).toInt (jl + 1)).1 (x_lv kd vl (ru).toInt (jl + 1)).2.1) (n0 : Int32).toNatClampNeg) (x_100 : Int32).toNatClampNeg from g_it.stop srel_102_0 (fun h9 => absurd h9 (by omega)))⟩⟩, G9_102, trivial⟩ dX6_readSum_57
              · as_aux_lemma =>
                  have jc_105 := dk_neqc (k := 0) (by decide +kernel) c_105
                  refine lv_iload_n hx hb dX6_readSum_26 rfl (lv_at hl 1 rfl) ?_
                  refine lv_if_eq (tgt := 56) hx hb dX6_readSum_27 (dk_dq rfl) (fun c_106 => ?_) (fun c_106 => ?_)
                  · have jc_106 := dk_eqc (k := 0) (by decide +kernel) c_106
                    have qsrel_102_1 : g_so kd vl (x_100 : Int32).toNatClampNeg = false := by have h9 := g_iff_f srel_102_1 (by omega); exact h9
                    refine lv_iload_n hx hb dX6_readSum_56 rfl (lv_at hl 2 rfl) ?_
                    refine W.widen (k := 0) (n := 0) (Nat.le_of_ble_eq_true rfl) (Nat.le_of_ble_eq_true rfl) ?_
                    exact dg_iret hx hb hr hlocks (dk_znar2 (by omega)) hP hS ⟨I_102, M_102, (by omega), (m_hid.mk (fun q9 => q_as.to ((q_it.stop srel_102_4 (fun _ => Or.inr qsrel_102_1)) q9) (d_lv_s (e := (jl + 1))))), ⟨x_100, x_101, ff_102_4_209, ff_102_7_209, ⟨⟨by omega, by omega⟩, (show g_ans x_99 (x_sum kd vl (x_part kd vl (ru).toInt (x_lv kd vl (ru).toInt (jl + 1)).1 (x_lv kd vl (ru).toInt (jl + 1)).2.1) (n0 : Int32).toNatClampNeg) (x_100 : Int32).toNatClampNeg from g_it.stop srel_102_0 (fun _ => Or.inr qsrel_102_1))⟩⟩, G9_102, trivial⟩ dX6_readSum_57
                  · as_aux_lemma =>
                      have jc_106 := dk_neqc (k := 0) (by decide +kernel) c_106
                      have qsrel_102_1 : g_so kd vl (x_100 : Int32).toNatClampNeg = true := by have h9 := srel_102_1.mp (by omega); exact h9
                      refine lv_aload_n hx hb dX6_readSum_30 rfl (lv_at hl 3 rfl) ?_
                      refine dg_callv hS hA1 hA (va_runV (As := []) (rest := []) F (c_rd_pass l g D o S_102 en kd vl x_100 ff_102_4_209 (by omega) ke ((congrFun (M_102.2 211 _ sX_211 (dk_dq rfl)).1 _).trans f_ke) (by omega) (by omega) (fun k9 h9 => (congrFun (M_102.2 211 _ sX_211 (dk_dq rfl)).1 k9).trans (hkd k9 h9)) (fun k9 h9 => (congrFun (M_102.2 213 _ sX_213 (dk_dq rfl)).1 k9).trans (hvl k9 h9)) I_102 H.size) (cwV 0 hts (bw_V wB_26 wB_27 wB_28 wB_24 wB_25) rfl rfl rfl (by decide +kernel) ⟨by dsimp only; omega, by dsimp only; omega⟩) (dg_preV sX_209 rfl K ST hP hS hA1 hA) rfl rfl hl.1 rfl (lv_room (Nat.le_of_ble_eq_true rfl)) dX6_readSum_31 ⟨Nat.le_of_ble_eq_true rfl, Nat.le_of_ble_eq_true rfl⟩) (fun S_107 hw_107 H locs hP hS => ?_)
                      obtain ⟨I_107, m_107, w_107_0, -⟩ := hw_107
                      have M_107 := dg_sm.tr M_102 m_107 (dk_dq rfl) (dk_dq rfl)
                      obtain ⟨y_108, f_y_108, w_107_0⟩ := w_107_0
                      have w_107_0 : (y_108).toInt ≤ (en).toInt ∧ ((kd (x_100 : Int32).toNatClampNeg).toInt ≠ 0 → (y_108 : Int32).toNatClampNeg = (x_100 : Int32).toNatClampNeg + 1) := w_107_0
                      have b_y_108 : 0 ≤ (y_108).toInt ∧ (y_108).toInt ≤ 1600 := dg_I.intb (lo := 0) (hi := 1600) I_107 sX_209 (by decide +kernel) f_y_108
                      have nq_y_108 : (y_108 : Int32).toNatClampNeg = (x_100 : Int32).toNatClampNeg + 1 := by have h9 := w_107_0.2 (g_so_ne qsrel_102_1); omega
                      have ni_y_108 : (y_108).toInt = (x_100).toInt + 1 := by have h8 := dk_clN y_108; have h9 := dk_clN x_100; omega
                      refine lv_aload_n hx hb dX6_readSum_34 rfl (lv_at hl 3 rfl) ?_
                      refine lv_iload_n hx hb dX6_readSum_35 rfl (lv_at hl 4 rfl) ?_
                      refine dg_calli hS hA1 hA (va_runV (As := [.int dp]) (rest := []) F (cg_readProduct jl dp dq hdp hdq hLT hLS hLF l g D o S_107 en kd vl S0 d0 gd hk_gd (((m_107.1 209 3 _ sX_209 (dk_dq rfl)).trans (M_102.1 209 3 _ sX_209 (dk_dq rfl))).trans f_gd) y_108 f_y_108 (by omega) ru (((m_107.1 209 6 _ sX_209 (dk_dq rfl)).trans (M_102.1 209 6 _ sX_209 (dk_dq rfl))).trans f_ru) (by omega) x_101 ((m_107.1 209 7 _ sX_209 (dk_dq rfl)).trans ff_102_7_209) (by omega) ke ((congrFun ((m_107.2 211 _ sX_211 (dk_dq rfl)).1.trans (M_102.2 211 _ sX_211 (dk_dq rfl)).1) _).trans f_ke) (by omega) (by omega) (fun k9 h9 => (congrFun ((m_107.2 211 _ sX_211 (dk_dq rfl)).1.trans (M_102.2 211 _ sX_211 (dk_dq rfl)).1) k9).trans (hkd k9 h9)) (fun k9 h9 => (congrFun ((m_107.2 213 _ sX_213 (dk_dq rfl)).1.trans (M_102.2 213 _ sX_213 (dk_dq rfl)).1) k9).trans (hvl k9 h9)) (by omega) hd0 (G9X.keep G9_102 m_107 (dk_dq rfl)) I_107 H.size) (cwV 1 hts (bw_V wB_120 wB_121 wB_122 wB_24 wB_119) rfl rfl rfl (by decide +kernel) ⟨by dsimp only; omega, by dsimp only; omega⟩) (dg_preV sX_209 rfl K ST hP hS hA1 hA) rfl rfl hl.1 rfl (lv_room (Nat.le_of_ble_eq_true rfl)) dX6_readSum_36 ⟨Nat.le_of_ble_eq_true rfl, Nat.le_of_ble_eq_true rfl⟩) (fun x_109 S_110 hw_110 H locs hP hS => ?_)
                      obtain ⟨I_110, m_110, w_110_0, w_110_1, w_110_2, w_110_3, -⟩ := hw_110
                      have M_110 := dg_sm.tr M_107 m_110 (dk_dq rfl) (dk_dq rfl)
                      have w_110_0 : 0 ≤ (x_109).toInt ∧ (x_109).toInt ≤ 1 := w_110_0
                      replace w_110_1 : m_hid ((x_109).toInt = 1 → q_as gd S_107 S_110 x_101 (d_prod kd vl (x_part kd vl (ru).toInt (x_lv kd vl (ru).toInt (jl + 1)).1 (x_lv kd vl (ru).toInt (jl + 1)).2.1) (d_part kd vl (x_lv kd vl (ru).toInt (jl + 1)).1 (x_lv kd vl (ru).toInt (jl + 1)).2.1 (d_lv kd vl (ru).toInt (jl + 1)).1 (d_lv kd vl (ru).toInt (jl + 1)).2.1) (y_108 : Int32).toNatClampNeg)) := w_110_1
                      have ap_110 : m_hid ((x_109).toInt = 1 → q_as gd S_102 S_110 x_101 (d_prod kd vl (x_part kd vl (ru).toInt (x_lv kd vl (ru).toInt (jl + 1)).1 (x_lv kd vl (ru).toInt (jl + 1)).2.1) (d_part kd vl (x_lv kd vl (ru).toInt (jl + 1)).1 (x_lv kd vl (ru).toInt (jl + 1)).2.1 (d_lv kd vl (ru).toInt (jl + 1)).1 (d_lv kd vl (ru).toInt (jl + 1)).2.1) ((x_100 : Int32).toNatClampNeg + 1))) := m_hid.mk (fun q9 => (q_as.fst (m_107.2 (gd + 9) _ (rX_9 gd hk_gd) (dk_dq rfl)).1 (by have h9 := w_110_1.out q9; rw [nq_y_108] at h9; exact h9)))
                      obtain ⟨y_111, y_112, f_y_111, f_y_112, w_110_2⟩ := w_110_2
                      have w_110_2 : ((y_111).toInt ≤ (en).toInt ∧ ((x_109).toInt = 1 → ((x_101).toInt + 1 ≤ (y_112).toInt ∧ (y_112).toInt - (x_101).toInt ≤ (y_111).toInt - (y_108).toInt))) ∧ g_ans x_109 (x_prod kd vl (x_part kd vl (ru).toInt (x_lv kd vl (ru).toInt (jl + 1)).1 (x_lv kd vl (ru).toInt (jl + 1)).2.1) (y_108 : Int32).toNatClampNeg) (y_111 : Int32).toNatClampNeg := w_110_2
                      have b_y_111 : 0 ≤ (y_111).toInt ∧ (y_111).toInt ≤ 1600 := dg_I.intb (lo := 0) (hi := 1600) I_110 sX_209 (by decide +kernel) f_y_111
                      have b_y_112 : 0 ≤ (y_112).toInt ∧ (y_112).toInt ≤ 1600 := dg_I.intb (lo := 0) (hi := 1600) I_110 sX_209 (by decide +kernel) f_y_112
                      refine lv_istore_n (lv' := [(2, .int x_109), (4, .int x_97), (3, .int x_98), (0, .ref (o + 209)), (1, .int dp)]) hx hb dX6_readSum_39 rfl hl (dk_dq rfl) rfl (fun ls hl => ?_)
                      refine lv_aload_n hx hb dX6_readSum_40 rfl (lv_at hl 3 rfl) ?_
                      refine lv_iload_n hx hb dX6_readSum_41 rfl (lv_at hl 2 rfl) ?_
                      refine dg_callv hS hA1 hA (va_runV (As := [.int x_98]) (rest := []) F (c_rd_put l g D o S_110 x_98 en S0 d0 gd hk_gd (((m_110.1 209 3 _ sX_209 (dk_dq rfl)).trans ((m_107.1 209 3 _ sX_209 (dk_dq rfl)).trans (M_102.1 209 3 _ sX_209 (dk_dq rfl)))).trans f_gd) y_111 f_y_111 (by omega) y_112 f_y_112 (by omega) ke ((congrFun ((m_110.2 211 _ sX_211 (dk_dq rfl)).1.trans ((m_107.2 211 _ sX_211 (dk_dq rfl)).1.trans (M_102.2 211 _ sX_211 (dk_dq rfl)).1)) _).trans f_ke) (by omega) (by omega) hd0 w_110_3 I_110 H.size) (cwV 1 hts (bw_V wB_96 wB_97 wB_98 wB_24 wB_95) rfl rfl rfl (by decide +kernel) ⟨by dsimp only; omega, by dsimp only; omega⟩) (dg_preV sX_209 rfl K ST hP hS hA1 hA) rfl rfl hl.1 rfl (lv_room (Nat.le_of_ble_eq_true rfl)) dX6_readSum_42 ⟨Nat.le_of_ble_eq_true rfl, Nat.le_of_ble_eq_true rfl⟩) (fun S_113 hw_113 H locs hP hS => ?_)
                      obtain ⟨I_113, m_113, w_113_0, w_113_1, w_113_2, -⟩ := hw_113
                      have M_113 := dg_sm.tr M_110 m_113 (dk_dq rfl) (dk_dq rfl)
                      replace w_113_0 : m_hid ((y_112).toInt < 1600 → q_as gd S_110 S_113 y_112 [(x_98).toInt]) := w_113_0
                      have ap_113 : m_hid ((x_109).toInt = 1 → q_as gd S_102 S_113 x_101 (d_prod kd vl (x_part kd vl (ru).toInt (x_lv kd vl (ru).toInt (jl + 1)).1 (x_lv kd vl (ru).toInt (jl + 1)).2.1) (d_part kd vl (x_lv kd vl (ru).toInt (jl + 1)).1 (x_lv kd vl (ru).toInt (jl + 1)).2.1 (d_lv kd vl (ru).toInt (jl + 1)).1 (d_lv kd vl (ru).toInt (jl + 1)).2.1) ((x_100 : Int32).toNatClampNeg + 1) ++ [(x_98).toInt])) := m_hid.mk (fun q9 => (q_as.tr (ap_110.out q9) rfl rfl f_y_112 (by have h9 := w_113_0.out (by omega); exact h9)))
                      obtain ⟨y_114, f_y_114, w_113_1⟩ := w_113_1
                      have w_113_1 : (y_112).toInt < 1600 → (y_114).toInt = (y_112).toInt + 1 := w_113_1
                      have b_y_114 : 0 ≤ (y_114).toInt ∧ (y_114).toInt ≤ 1600 := dg_I.intb (lo := 0) (hi := 1600) I_113 sX_209 (by decide +kernel) f_y_114
                      refine lv_aload_n hx hb dX6_readSum_45 rfl (lv_at hl 3 rfl) ?_
                      refine dg_calli hS hA1 hA (va_runV (As := []) (rest := []) F (c_rd_sumStep l g D o S_113 en kd vl y_111 ((m_113.1 209 4 _ sX_209 (dk_dq rfl)).trans f_y_111) (by omega) ke ((congrFun ((m_113.2 211 _ sX_211 (dk_dq rfl)).1.trans ((m_110.2 211 _ sX_211 (dk_dq rfl)).1.trans ((m_107.2 211 _ sX_211 (dk_dq rfl)).1.trans (M_102.2 211 _ sX_211 (dk_dq rfl)).1))) _).trans f_ke) (by omega) (by omega) (fun k9 h9 => (congrFun ((m_113.2 211 _ sX_211 (dk_dq rfl)).1.trans ((m_110.2 211 _ sX_211 (dk_dq rfl)).1.trans ((m_107.2 211 _ sX_211 (dk_dq rfl)).1.trans (M_102.2 211 _ sX_211 (dk_dq rfl)).1))) k9).trans (hkd k9 h9)) (fun k9 h9 => (congrFun ((m_113.2 213 _ sX_213 (dk_dq rfl)).1.trans ((m_110.2 213 _ sX_213 (dk_dq rfl)).1.trans ((m_107.2 213 _ sX_213 (dk_dq rfl)).1.trans (M_102.2 213 _ sX_213 (dk_dq rfl)).1))) k9).trans (hvl k9 h9)) I_113 H.size) (cwV 0 hts (bw_V wB_124 wB_125 wB_126 wB_24 wB_123) rfl rfl rfl (by decide +kernel) ⟨by dsimp only; omega, by dsimp only; omega⟩) (dg_preV sX_209 rfl K ST hP hS hA1 hA) rfl rfl hl.1 rfl (lv_room (Nat.le_of_ble_eq_true rfl)) dX6_readSum_46 ⟨Nat.le_of_ble_eq_true rfl, Nat.le_of_ble_eq_true rfl⟩) (fun x_115 S_116 hw_116 H locs hP hS => ?_)
                      rw [hw_116.1] at hP
                      obtain ⟨hq_116, w_116_0, w_116_1, w_116_2, -⟩ := hw_116
                      have w_116_0 : (-11) ≤ (x_115).toInt ∧ (x_115).toInt ≤ 0 := w_116_0
                      have w_116_1 : m_hid ((x_115).toInt ≠ 0 → (x_115).toInt = d_so kd vl ((y_111 : Int32).toNatClampNeg)) := w_116_1
                      have w_116_2 : (x_115).toInt ≠ 0 ↔ g_so kd vl (y_111 : Int32).toNatClampNeg = true := w_116_2
                      have v5_x_115 : m_hid ((x_115).toInt ≠ 0 → (x_115).toInt = d_so kd vl ((y_111 : Int32).toNatClampNeg)) := m_hid.mk (by have h9 := w_116_1.out; exact h9)
                      refine lv_istore_n (lv' := [(3, .int x_115), (2, .int x_109), (4, .int x_97), (0, .ref (o + 209)), (1, .int dp)]) hx hb dX6_readSum_49 rfl hl (dk_dq rfl) rfl (fun ls hl => ?_)
                      obtain ⟨x_117, ex_117⟩ : ∃ z, z = x_97 + 1 := ⟨_, rfl⟩
                      have jx_117 : (x_117).toInt = (x_97).toInt + 1 := by rw [ex_117]; exact dk_addT2 rfl (by decide +kernel) (by omega)
                      refine lv_iinc (v := x_117) (lv' := [(4, .int x_117), (3, .int x_115), (2, .int x_109), (0, .ref (o + 209)), (1, .int dp)]) hx hb dX6_readSum_50 hl (k := 2) rfl (by rw [ex_117]; rfl) (dk_dq rfl) rfl (fun ls hl => ?_)
                      refine lv_goto (tgt := 14) hx hb dX6_readSum_53 (dk_dq rfl) ?_
                      exact ih x_117 x_115 x_109 y_111 y_114 (by omega) (by omega) (by omega) (by omega) (by omega) (by omega) (by first | exact mu_lt hmu (by omega) (by omega) | omega) S_113 I_113 M_113 ((m_113.1 209 4 _ sX_209 (dk_dq rfl)).trans f_y_111) f_y_114 w_113_2 (g_it.step srel_102_0 (by omega) (by omega) qsrel_102_1 (by have h9 := w_110_2.2; rw [nq_y_108] at h9; exact h9)) w_116_2 (by omega) v5_x_115 (q_it.step srel_102_4 (by omega) (by omega) qsrel_102_1 (by have h9 := w_110_2.2; rw [nq_y_108] at h9; exact h9) ff_102_7_209 ap_113.out (srel_102_3.out (by omega))) _ _ hP hS _ (lv_sub hl [0, 1, 2, 3, 4] rfl)
  have hz_118 : (0 : Int32).toInt = 0 := by decide +kernel
  have hz_119 : (0 : Int32).toInt = 0 := by decide +kernel
  have hz_120 : (0 : Int32).toInt = 0 := by decide +kernel
  exact L_103 ((1601 - ((0 : Int32)).toInt).toNat + 1) 0 x_5 x_1 y_3 y_4 (by decide +kernel) (by omega) (by omega) (by omega) (by omega) (by omega) (by first | exact mu_lt hmu (by omega) (by omega) | omega) S_2 I_2 M_2 f_y_3 f_y_4 w_2_3 (by rw [show (1600 - (0 : Int32).toInt).toNat = 1600 from by decide +kernel]; exact g_it.start w_2_2.2) w_6_2 (by omega) v5_x_5 (by rw [show (1600 - (0 : Int32).toInt).toNat = 1600 from by decide +kernel]; exact q_it.start d_sum_e w_2_2.2 ap_2.out) _ _ hP hS _ (lv_sub hl [0, 1, 2, 3, 4] rfl)
set_option maxHeartbeats 8000000 in
set_option maxRecDepth 100000 in
theorem cg_readComparing (jl : Nat) (dp dq : Int32) (hdp : dp < 7) (hdq : dp + 1 = dq) (hLT : lvT dq jl) (hLS : lvS dq jl) (hLF : lvF dq jl) (l : Launch) (g : Nat → ClassId) (D : va_G) (o : Nat) (S : dg_S) (en : Int32) (kd : Nat → Int32) (vl : Nat → Int32) (S0 : dg_S) (d0 : Nat) (gd : Nat) (hk_gd : rX gd) (f_gd : S.1 209 3 = .ref (o + gd)) (n0 : Int32) (f_n0 : S.1 209 4 = .int n0) (b_n0 : 0 ≤ (n0).toInt ∧ (n0).toInt ≤ 1600) (ru : Int32) (f_ru : S.1 209 6 = .int ru) (b_ru : 0 ≤ (ru).toInt ∧ (ru).toInt ≤ 2) (sc : Int32) (f_sc : S.1 209 7 = .int sc) (b_sc : 0 ≤ (sc).toInt ∧ (sc).toInt ≤ 1600) (ke : Int32) (f_ke : S.2.1 211 (en : Int32).toNatClampNeg = ke) (b_ke : 0 ≤ (ke).toInt ∧ (ke).toInt ≤ 0) (hne : (n0).toInt ≤ (en).toInt ∧ (en).toInt ≤ 1600 ∧ 0 ≤ (en).toInt) (hkd : ∀ k9 : Nat, k9 ≤ (en : Int32).toNatClampNeg → S.2.1 211 k9 = kd k9) (hvl : ∀ k9 : Nat, k9 ≤ (en : Int32).toNatClampNeg → S.2.1 213 k9 = vl k9) (hsc : (sc).toInt ≤ (n0).toInt) (hd0 : d0 ≠ gd) (G9 : G9X S0 d0 S) (I : CX o S) (sz : Nat) : Met l yX6_readComparing (bw yX6_readComparing cX6_readComparing 4 (some .boolean)) ({ frames := 8 * jl + 16, cells := 0, slots := 0, locals := 183 * jl + 372 } : Room) (dk_Pc g D (dg_w g shX o rfX S) sz [.ref (o + 209), .int dp]) (va_Qi (fun (r : Int32) S' => CX o S' ∧ dg_sm shX [(31, 0), (31, 1), (31, 4), (31, 7)] [28] S S' ∧ (0 ≤ (r).toInt ∧ (r).toInt ≤ 1) ∧ (m_hid ((r).toInt = 1 → q_as gd S S' sc (d_comp kd vl (x_lv kd vl (ru).toInt (jl + 2)).1 (d_lv kd vl (ru).toInt (jl + 2)).1 (n0 : Int32).toNatClampNeg))) ∧ (∃ y9_4 y9_7 : Int32, S'.1 209 4 = .int y9_4 ∧ S'.1 209 7 = .int y9_7 ∧ (((y9_4).toInt ≤ (en).toInt ∧ ((r).toInt = 1 → ((sc).toInt + 1 ≤ (y9_7).toInt ∧ (y9_7).toInt - (sc).toInt ≤ (y9_4).toInt - (n0).toInt))) ∧ g_ans r (x_comp kd vl (x_lv kd vl (ru).toInt (jl + 2)).1 (n0 : Int32).toNatClampNeg) (y9_4 : Int32).toNatClampNeg)) ∧ G9X S0 d0 S' ∧ True) (dg_B g D shX o rfX) (dg_A o shX.length sz)) 0 0 (dg_A o shX.length sz) := by
  refine dg_met (cc := cX6_readComparing) (maxL := 4) (ret := (some .boolean)) (dk_dq rfl) rfl (Nat.le_of_ble_eq_true rfl) ?_
  intro p e s m args below meth c A hAe harg hx hb hr hml hts hown hlocks hin hP K hS hA1 hA ST hsz ls hl
  rw [← hAe]
  have F : CallFix p m c cX6_readComparing 4 s args (bw yX6_readComparing cX6_readComparing 4 (some .boolean)) RX6 := ⟨hx, hb, hml, hown, hts⟩
  have hl : lv_has ls 4 [(0, .ref (o + 209)), (1, .int dp)] := hl
  have M_0 : dg_sm shX [(31, 0), (31, 1), (31, 4), (31, 7)] [28] S S := dg_sm.rf
  refine lv_aload_n hx hb dX6_readComparing_0 rfl (lv_at hl 0 rfl) ?_
  refine lv_iload_n hx hb dX6_readComparing_1 rfl (lv_at hl 1 rfl) ?_
  refine dg_calli hS hA1 hA (va_runV (As := [.int dp]) (rest := []) F (cg_readSum jl dp dq hdp hdq hLT hLS hLF l g D o S en kd vl S0 d0 gd hk_gd f_gd n0 f_n0 (by omega) ru f_ru (by omega) sc f_sc (by omega) ke f_ke (by omega) (by omega) hkd hvl (by omega) hd0 G9 I s.heap.size) (cwV 1 hts (bw_V wB_128 wB_129 wB_130 wB_24 wB_127) rfl rfl rfl (by decide +kernel) ⟨by dsimp only; omega, by dsimp only; omega⟩) (dg_preV sX_209 rfl K ST hP hS hA1 hA) rfl rfl hl.1 rfl (lv_room (Nat.le_of_ble_eq_true rfl)) dX6_readComparing_2 ⟨Nat.le_of_ble_eq_true rfl, Nat.le_of_ble_eq_true rfl⟩) (fun x_1 S_2 hw_2 H locs hP hS => ?_)
  obtain ⟨I_2, m_2, w_2_0, w_2_1, w_2_2, w_2_3, -⟩ := hw_2
  have M_2 := dg_sm.tr M_0 m_2 (dk_dq rfl) (dk_dq rfl)
  have w_2_0 : 0 ≤ (x_1).toInt ∧ (x_1).toInt ≤ 1 := w_2_0
  replace w_2_1 : m_hid ((x_1).toInt = 1 → q_as gd S S_2 sc ((d_lv kd vl (ru).toInt (jl + 2)).1 (n0 : Int32).toNatClampNeg)) := w_2_1
  have ap_2 : m_hid ((x_1).toInt = 1 → q_as gd S S_2 sc ((d_lv kd vl (ru).toInt (jl + 2)).1 (n0 : Int32).toNatClampNeg)) := m_hid.mk (fun q9 => (by have h9 := w_2_1.out q9; exact h9))
  obtain ⟨y_3, y_4, f_y_3, f_y_4, w_2_2⟩ := w_2_2
  have w_2_2 : ((y_3).toInt ≤ (en).toInt ∧ ((x_1).toInt = 1 → ((sc).toInt + 1 ≤ (y_4).toInt ∧ (y_4).toInt - (sc).toInt ≤ (y_3).toInt - (n0).toInt))) ∧ g_ans x_1 ((x_lv kd vl (ru).toInt (jl + 2)).1 (n0 : Int32).toNatClampNeg) (y_3 : Int32).toNatClampNeg := w_2_2
  have b_y_3 : 0 ≤ (y_3).toInt ∧ (y_3).toInt ≤ 1600 := dg_I.intb (lo := 0) (hi := 1600) I_2 sX_209 (by decide +kernel) f_y_3
  have b_y_4 : 0 ≤ (y_4).toInt ∧ (y_4).toInt ≤ 1600 := dg_I.intb (lo := 0) (hi := 1600) I_2 sX_209 (by decide +kernel) f_y_4
  refine lv_if_ne (tgt := 10) hx hb dX6_readComparing_5 (dk_dq rfl) (fun c_5 => ?_) (fun c_5 => ?_)
  · as_aux_lemma =>
      have jc_5 := dk_neqc (k := 0) (by decide +kernel) c_5
      have qw_2_2 : (x_lv kd vl (ru).toInt (jl + 2)).1 (n0 : Int32).toNatClampNeg = some (y_3 : Int32).toNatClampNeg := by have h9 := w_2_2.2.1 (by omega); exact h9
      refine lv_aload_n hx hb dX6_readComparing_10 rfl (lv_at hl 0 rfl) ?_
      refine dg_calli hS hA1 hA (va_runV (As := []) (rest := []) F (c_rd_comparingStep l g D o S_2 en kd vl y_3 f_y_3 (by omega) ke ((congrFun (m_2.2 211 _ sX_211 (dk_dq rfl)).1 _).trans f_ke) (by omega) (by omega) (fun k9 h9 => (congrFun (m_2.2 211 _ sX_211 (dk_dq rfl)).1 k9).trans (hkd k9 h9)) (fun k9 h9 => (congrFun (m_2.2 213 _ sX_213 (dk_dq rfl)).1 k9).trans (hvl k9 h9)) I_2 H.size) (cwV 0 hts (bw_V wB_132 wB_133 wB_134 wB_24 wB_131) rfl rfl rfl (by decide +kernel) ⟨by dsimp only; omega, by dsimp only; omega⟩) (dg_preV sX_209 rfl K ST hP hS hA1 hA) rfl rfl hl.1 rfl (lv_room (Nat.le_of_ble_eq_true rfl)) dX6_readComparing_11 ⟨Nat.le_of_ble_eq_true rfl, Nat.le_of_ble_eq_true rfl⟩) (fun x_6 S_7 hw_7 H locs hP hS => ?_)
      rw [hw_7.1] at hP
      obtain ⟨hq_7, w_7_0, w_7_1, w_7_2, -⟩ := hw_7
      have w_7_0 : (-19) ≤ (x_6).toInt ∧ (x_6).toInt ≤ 0 := w_7_0
      have w_7_1 : m_hid ((x_6).toInt ≠ 0 → (x_6).toInt = d_co kd vl ((y_3 : Int32).toNatClampNeg)) := w_7_1
      have w_7_2 : (x_6).toInt ≠ 0 ↔ g_co kd vl (y_3 : Int32).toNatClampNeg = true := w_7_2
      have v5_x_6 : m_hid ((x_6).toInt ≠ 0 → (x_6).toInt = d_co kd vl ((y_3 : Int32).toNatClampNeg)) := m_hid.mk (by have h9 := w_7_1.out; exact h9)
      refine lv_istore_n (lv' := [(2, .int x_6), (0, .ref (o + 209)), (1, .int dp)]) hx hb dX6_readComparing_14 rfl hl (dk_dq rfl) rfl (fun ls hl => ?_)
      refine lv_iload_n hx hb dX6_readComparing_15 rfl (lv_at hl 0 rfl) ?_
      refine lv_if_ne (tgt := 25) hx hb dX6_readComparing_16 (dk_dq rfl) (fun c_8 => ?_) (fun c_8 => ?_)
      · as_aux_lemma =>
          have jc_8 := dk_neqc (k := 0) (by decide +kernel) c_8
          have qw_7_2 : g_co kd vl (y_3 : Int32).toNatClampNeg = true := by have h9 := w_7_2.mp (by omega); exact h9
          have u5_x_6 := m_hid.mk (v5_x_6.out (by omega))
          refine lv_aload_n hx hb dX6_readComparing_25 rfl (lv_at hl 1 rfl) ?_
          refine dg_callv hS hA1 hA (va_runV (As := []) (rest := []) F (c_rd_pass l g D o S_2 en kd vl y_3 f_y_3 (by omega) ke ((congrFun (m_2.2 211 _ sX_211 (dk_dq rfl)).1 _).trans f_ke) (by omega) (by omega) (fun k9 h9 => (congrFun (m_2.2 211 _ sX_211 (dk_dq rfl)).1 k9).trans (hkd k9 h9)) (fun k9 h9 => (congrFun (m_2.2 213 _ sX_213 (dk_dq rfl)).1 k9).trans (hvl k9 h9)) I_2 H.size) (cwV 0 hts (bw_V wB_26 wB_27 wB_28 wB_24 wB_25) rfl rfl rfl (by decide +kernel) ⟨by dsimp only; omega, by dsimp only; omega⟩) (dg_preV sX_209 rfl K ST hP hS hA1 hA) rfl rfl hl.1 rfl (lv_room (Nat.le_of_ble_eq_true rfl)) dX6_readComparing_26 ⟨Nat.le_of_ble_eq_true rfl, Nat.le_of_ble_eq_true rfl⟩) (fun S_9 hw_9 H locs hP hS => ?_)
          obtain ⟨I_9, m_9, w_9_0, -⟩ := hw_9
          have M_9 := dg_sm.tr M_2 m_9 (dk_dq rfl) (dk_dq rfl)
          obtain ⟨y_10, f_y_10, w_9_0⟩ := w_9_0
          have w_9_0 : (y_10).toInt ≤ (en).toInt ∧ ((kd (y_3 : Int32).toNatClampNeg).toInt ≠ 0 → (y_10 : Int32).toNatClampNeg = (y_3 : Int32).toNatClampNeg + 1) := w_9_0
          have b_y_10 : 0 ≤ (y_10).toInt ∧ (y_10).toInt ≤ 1600 := dg_I.intb (lo := 0) (hi := 1600) I_9 sX_209 (by decide +kernel) f_y_10
          have nq_y_10 : (y_10 : Int32).toNatClampNeg = (y_3 : Int32).toNatClampNeg + 1 := by have h9 := w_9_0.2 (g_co_ne qw_7_2); omega
          have ni_y_10 : (y_10).toInt = (y_3).toInt + 1 := by have h8 := dk_clN y_10; have h9 := dk_clN y_3; omega
          refine lv_aload_n hx hb dX6_readComparing_29 rfl (lv_at hl 1 rfl) ?_
          refine lv_iload_n hx hb dX6_readComparing_30 rfl (lv_at hl 2 rfl) ?_
          refine dg_calli hS hA1 hA (va_runV (As := [.int dp]) (rest := []) F (cg_readSum jl dp dq hdp hdq hLT hLS hLF l g D o S_9 en kd vl S0 d0 gd hk_gd (((m_9.1 209 3 _ sX_209 (dk_dq rfl)).trans (m_2.1 209 3 _ sX_209 (dk_dq rfl))).trans f_gd) y_10 f_y_10 (by omega) ru (((m_9.1 209 6 _ sX_209 (dk_dq rfl)).trans (m_2.1 209 6 _ sX_209 (dk_dq rfl))).trans f_ru) (by omega) y_4 ((m_9.1 209 7 _ sX_209 (dk_dq rfl)).trans f_y_4) (by omega) ke ((congrFun ((m_9.2 211 _ sX_211 (dk_dq rfl)).1.trans (m_2.2 211 _ sX_211 (dk_dq rfl)).1) _).trans f_ke) (by omega) (by omega) (fun k9 h9 => (congrFun ((m_9.2 211 _ sX_211 (dk_dq rfl)).1.trans (m_2.2 211 _ sX_211 (dk_dq rfl)).1) k9).trans (hkd k9 h9)) (fun k9 h9 => (congrFun ((m_9.2 213 _ sX_213 (dk_dq rfl)).1.trans (m_2.2 213 _ sX_213 (dk_dq rfl)).1) k9).trans (hvl k9 h9)) (by omega) hd0 (G9X.keep w_2_3 m_9 (dk_dq rfl)) I_9 H.size) (cwV 1 hts (bw_V wB_128 wB_129 wB_130 wB_24 wB_127) rfl rfl rfl (by decide +kernel) ⟨by dsimp only; omega, by dsimp only; omega⟩) (dg_preV sX_209 rfl K ST hP hS hA1 hA) rfl rfl hl.1 rfl (lv_room (Nat.le_of_ble_eq_true rfl)) dX6_readComparing_31 ⟨Nat.le_of_ble_eq_true rfl, Nat.le_of_ble_eq_true rfl⟩) (fun x_11 S_12 hw_12 H locs hP hS => ?_)
          obtain ⟨I_12, m_12, w_12_0, w_12_1, w_12_2, w_12_3, -⟩ := hw_12
          have M_12 := dg_sm.tr M_9 m_12 (dk_dq rfl) (dk_dq rfl)
          have w_12_0 : 0 ≤ (x_11).toInt ∧ (x_11).toInt ≤ 1 := w_12_0
          replace w_12_1 : m_hid ((x_11).toInt = 1 → q_as gd S_9 S_12 y_4 ((d_lv kd vl (ru).toInt (jl + 2)).1 (y_10 : Int32).toNatClampNeg)) := w_12_1
          have ap_12 : m_hid ((x_11).toInt = 1 → q_as gd S S_12 sc ((d_lv kd vl (ru).toInt (jl + 2)).1 (n0 : Int32).toNatClampNeg ++ ((d_lv kd vl (ru).toInt (jl + 2)).1 ((y_3 : Int32).toNatClampNeg + 1)))) := m_hid.mk (fun q9 => (q_as.tr (ap_2.out (by omega)) (m_9.1 209 7 _ sX_209 (dk_dq rfl)) (m_9.2 (gd + 9) _ (rX_9 gd hk_gd) (dk_dq rfl)).1 ((m_9.1 209 7 _ sX_209 (dk_dq rfl)).trans f_y_4) (by have h9 := w_12_1.out q9; rw [nq_y_10] at h9; exact h9)))
          obtain ⟨y_13, y_14, f_y_13, f_y_14, w_12_2⟩ := w_12_2
          have w_12_2 : ((y_13).toInt ≤ (en).toInt ∧ ((x_11).toInt = 1 → ((y_4).toInt + 1 ≤ (y_14).toInt ∧ (y_14).toInt - (y_4).toInt ≤ (y_13).toInt - (y_10).toInt))) ∧ g_ans x_11 ((x_lv kd vl (ru).toInt (jl + 2)).1 (y_10 : Int32).toNatClampNeg) (y_13 : Int32).toNatClampNeg := w_12_2
          have b_y_13 : 0 ≤ (y_13).toInt ∧ (y_13).toInt ≤ 1600 := dg_I.intb (lo := 0) (hi := 1600) I_12 sX_209 (by decide +kernel) f_y_13
          have b_y_14 : 0 ≤ (y_14).toInt ∧ (y_14).toInt ≤ 1600 := dg_I.intb (lo := 0) (hi := 1600) I_12 sX_209 (by decide +kernel) f_y_14
          refine lv_istore_n (lv' := [(3, .int x_11), (2, .int x_6), (0, .ref (o + 209)), (1, .int dp)]) hx hb dX6_readComparing_34 rfl hl (dk_dq rfl) rfl (fun ls hl => ?_)
          refine lv_aload_n hx hb dX6_readComparing_35 rfl (lv_at hl 2 rfl) ?_
          refine lv_iload_n hx hb dX6_readComparing_36 rfl (lv_at hl 1 rfl) ?_
          refine dg_callv hS hA1 hA (va_runV (As := [.int x_6]) (rest := []) F (c_rd_put l g D o S_12 x_6 en S0 d0 gd hk_gd (((m_12.1 209 3 _ sX_209 (dk_dq rfl)).trans ((m_9.1 209 3 _ sX_209 (dk_dq rfl)).trans (m_2.1 209 3 _ sX_209 (dk_dq rfl)))).trans f_gd) y_13 f_y_13 (by omega) y_14 f_y_14 (by omega) ke ((congrFun ((m_12.2 211 _ sX_211 (dk_dq rfl)).1.trans ((m_9.2 211 _ sX_211 (dk_dq rfl)).1.trans (m_2.2 211 _ sX_211 (dk_dq rfl)).1)) _).trans f_ke) (by omega) (by omega) hd0 w_12_3 I_12 H.size) (cwV 1 hts (bw_V wB_96 wB_97 wB_98 wB_24 wB_95) rfl rfl rfl (by decide +kernel) ⟨by dsimp only; omega, by dsimp only; omega⟩) (dg_preV sX_209 rfl K ST hP hS hA1 hA) rfl rfl hl.1 rfl (lv_room (Nat.le_of_ble_eq_true rfl)) dX6_readComparing_37 ⟨Nat.le_of_ble_eq_true rfl, Nat.le_of_ble_eq_true rfl⟩) (fun S_15 hw_15 H locs hP hS => ?_)
          obtain ⟨I_15, m_15, w_15_0, w_15_1, w_15_2, -⟩ := hw_15
          have M_15 := dg_sm.tr M_12 m_15 (dk_dq rfl) (dk_dq rfl)
          replace w_15_0 : m_hid ((y_14).toInt < 1600 → q_as gd S_12 S_15 y_14 [(x_6).toInt]) := w_15_0
          have ap_15 : m_hid ((x_11).toInt = 1 → q_as gd S S_15 sc ((d_lv kd vl (ru).toInt (jl + 2)).1 (n0 : Int32).toNatClampNeg ++ ((d_lv kd vl (ru).toInt (jl + 2)).1 ((y_3 : Int32).toNatClampNeg + 1)) ++ [(x_6).toInt])) := m_hid.mk (fun q9 => (q_as.tr (ap_12.out q9) rfl rfl f_y_14 (by have h9 := w_15_0.out (by omega); exact h9)))
          obtain ⟨y_16, f_y_16, w_15_1⟩ := w_15_1
          have w_15_1 : (y_14).toInt < 1600 → (y_16).toInt = (y_14).toInt + 1 := w_15_1
          have b_y_16 : 0 ≤ (y_16).toInt ∧ (y_16).toInt ≤ 1600 := dg_I.intb (lo := 0) (hi := 1600) I_15 sX_209 (by decide +kernel) f_y_16
          refine lv_iload_n hx hb dX6_readComparing_40 rfl (lv_at hl 0 rfl) ?_
          refine W.widen (k := 0) (n := 0) (Nat.le_of_ble_eq_true rfl) (Nat.le_of_ble_eq_true rfl) ?_
          exact dg_iret hx hb hr hlocks (dk_znar2 (by omega)) hP hS ⟨I_15, M_15, (by omega), (m_hid.mk (fun q9 => q_as.to (ap_15.out (by omega)) (by simp [d_comp, qw_2_2, qw_7_2, nq_y_10, u5_x_6.out]))), ⟨y_13, y_16, ((m_15.1 209 4 _ sX_209 (dk_dq rfl)).trans f_y_13), f_y_16, ⟨⟨by omega, by omega⟩, (g_ans.to (E := (x_lv kd vl (ru).toInt (jl + 2)).1 ((y_3 : Int32).toNatClampNeg + 1)) (by have h9 := w_12_2.2; rw [nq_y_10] at h9; exact h9) (by simp [x_comp, qw_2_2, qw_7_2, nq_y_10]))⟩⟩, w_15_2, trivial⟩ dX6_readComparing_41
      · have jc_8 := dk_eqc (k := 0) (by decide +kernel) c_8
        have qw_7_2 : g_co kd vl (y_3 : Int32).toNatClampNeg = false := by have h9 := g_iff_f w_7_2 (by omega); exact h9
        refine lv_aload_n hx hb dX6_readComparing_19 rfl (lv_at hl 1 rfl) ?_
        refine lv_iconst (v := 1) hx hb dX6_readComparing_20 (by decide +kernel) ?_
        refine dg_calli hS hA1 hA (va_runV (As := [.int 1]) (rest := []) F (c_rd_fail l g D o S_2 1 en y_3 f_y_3 (by omega) ke ((congrFun (m_2.2 211 _ sX_211 (dk_dq rfl)).1 _).trans f_ke) (by omega) (by omega) I_2 H.size) (cwV 1 hts (bw_V wB_30 wB_31 wB_32 wB_24 wB_29) rfl rfl rfl (by decide +kernel) ⟨by dsimp only; omega, by dsimp only; omega⟩) (dg_preV sX_209 rfl K ST hP hS hA1 hA) rfl rfl hl.1 rfl (lv_room (Nat.le_of_ble_eq_true rfl)) dX6_readComparing_21 ⟨Nat.le_of_ble_eq_true rfl, Nat.le_of_ble_eq_true rfl⟩) (fun x_17 S_18 hw_18 H locs hP hS => ?_)
        obtain ⟨I_18, m_18, w_18_0, -⟩ := hw_18
        have M_18 := dg_sm.tr M_2 m_18 (dk_dq rfl) (dk_dq rfl)
        have w_18_0 : 0 ≤ (x_17).toInt ∧ (x_17).toInt ≤ 0 := w_18_0
        refine W.widen (k := 0) (n := 0) (Nat.le_of_ble_eq_true rfl) (Nat.le_of_ble_eq_true rfl) ?_
        exact dg_iret hx hb hr hlocks (dk_znar2 (by omega)) hP hS ⟨I_18, M_18, (by omega), (m_hid.mk (fun q9 => absurd q9 (by omega))), ⟨y_3, y_4, ((m_18.1 209 4 _ sX_209 (dk_dq rfl)).trans f_y_3), ((m_18.1 209 7 _ sX_209 (dk_dq rfl)).trans f_y_4), ⟨⟨by omega, by omega⟩, g_ans.n (by omega) (by simp [x_comp, qw_2_2, qw_7_2])⟩⟩, (G9X.keep w_2_3 m_18 (dk_dq rfl)), trivial⟩ dX6_readComparing_24
  · have jc_5 := dk_eqc (k := 0) (by decide +kernel) c_5
    have qw_2_2 : (x_lv kd vl (ru).toInt (jl + 2)).1 (n0 : Int32).toNatClampNeg = none := by have h9 := w_2_2.2.2 (by omega); exact h9
    refine lv_iconst (v := 0) hx hb dX6_readComparing_8 (by decide +kernel) ?_
    have hz_19 : (0 : Int32).toInt = 0 := by decide +kernel
    have hz_20 : (0 : Int32).toInt = 0 := by decide +kernel
    have hz_21 : (0 : Int32).toInt = 0 := by decide +kernel
    have hz_22 : (0 : Int32).toInt = 0 := by decide +kernel
    refine W.widen (k := 0) (n := 0) (Nat.le_of_ble_eq_true rfl) (Nat.le_of_ble_eq_true rfl) ?_
    exact dg_iret hx hb hr hlocks (by decide +kernel) hP hS ⟨I_2, M_2, (by decide +kernel), (m_hid.mk (fun q9 => absurd q9 (by omega))), ⟨y_3, y_4, f_y_3, f_y_4, ⟨⟨by omega, by omega⟩, g_ans.n (by omega) (by simp [x_comp, qw_2_2])⟩⟩, w_2_3, trivial⟩ dX6_readComparing_9
set_option maxHeartbeats 8000000 in
set_option maxRecDepth 100000 in
theorem cg_readFact (jl : Nat) (dp dq : Int32) (hdp : dp < 7) (hdq : dp + 1 = dq) (hLT : lvT dq jl) (hLS : lvS dq jl) (hLF : lvF dq jl) (l : Launch) (g : Nat → ClassId) (D : va_G) (o : Nat) (S : dg_S) (en : Int32) (kd : Nat → Int32) (vl : Nat → Int32) (S0 : dg_S) (d0 : Nat) (gd : Nat) (hk_gd : rX gd) (f_gd : S.1 209 3 = .ref (o + gd)) (n0 : Int32) (f_n0 : S.1 209 4 = .int n0) (b_n0 : 0 ≤ (n0).toInt ∧ (n0).toInt ≤ 1600) (ru : Int32) (f_ru : S.1 209 6 = .int ru) (b_ru : 0 ≤ (ru).toInt ∧ (ru).toInt ≤ 2) (sc : Int32) (f_sc : S.1 209 7 = .int sc) (b_sc : 0 ≤ (sc).toInt ∧ (sc).toInt ≤ 1600) (ke : Int32) (f_ke : S.2.1 211 (en : Int32).toNatClampNeg = ke) (b_ke : 0 ≤ (ke).toInt ∧ (ke).toInt ≤ 0) (hne : (n0).toInt ≤ (en).toInt ∧ (en).toInt ≤ 1600 ∧ 0 ≤ (en).toInt) (hkd : ∀ k9 : Nat, k9 ≤ (en : Int32).toNatClampNeg → S.2.1 211 k9 = kd k9) (hvl : ∀ k9 : Nat, k9 ≤ (en : Int32).toNatClampNeg → S.2.1 213 k9 = vl k9) (hsc : (sc).toInt ≤ (n0).toInt) (hd0 : d0 ≠ gd) (G9 : G9X S0 d0 S) (I : CX o S) (sz : Nat) : Met l yX6_readFact (bw yX6_readFact cX6_readFact 3 (some .boolean)) ({ frames := 8 * jl + 17, cells := 0, slots := 0, locals := 183 * jl + 395 } : Room) (dk_Pc g D (dg_w g shX o rfX S) sz [.ref (o + 209), .int dp]) (va_Qi (fun (r : Int32) S' => CX o S' ∧ dg_sm shX [(31, 0), (31, 1), (31, 4), (31, 7)] [28] S S' ∧ (0 ≤ (r).toInt ∧ (r).toInt ≤ 1) ∧ (m_hid ((r).toInt = 1 → q_as gd S S' sc ((d_lv kd vl (ru).toInt (jl + 2)).2.2 (n0 : Int32).toNatClampNeg))) ∧ (∃ y9_4 y9_7 : Int32, S'.1 209 4 = .int y9_4 ∧ S'.1 209 7 = .int y9_7 ∧ (((y9_4).toInt ≤ (en).toInt ∧ ((r).toInt = 1 → ((sc).toInt + 1 ≤ (y9_7).toInt ∧ (y9_7).toInt - (sc).toInt ≤ (y9_4).toInt - (n0).toInt))) ∧ g_ans r ((x_lv kd vl (ru).toInt (jl + 2)).2.2 (n0 : Int32).toNatClampNeg) (y9_4 : Int32).toNatClampNeg)) ∧ G9X S0 d0 S' ∧ True) (dg_B g D shX o rfX) (dg_A o shX.length sz)) 0 0 (dg_A o shX.length sz) := by
  refine dg_met (cc := cX6_readFact) (maxL := 3) (ret := (some .boolean)) (dk_dq rfl) rfl (Nat.le_of_ble_eq_true rfl) ?_
  intro p e s m args below meth c A hAe harg hx hb hr hml hts hown hlocks hin hP K hS hA1 hA ST hsz ls hl
  rw [← hAe]
  have F : CallFix p m c cX6_readFact 3 s args (bw yX6_readFact cX6_readFact 3 (some .boolean)) RX6 := ⟨hx, hb, hml, hown, hts⟩
  have hl : lv_has ls 3 [(0, .ref (o + 209)), (1, .int dp)] := hl
  have M_0 : dg_sm shX [(31, 0), (31, 1), (31, 4), (31, 7)] [28] S S := dg_sm.rf
  refine lv_aload_n hx hb dX6_readFact_0 rfl (lv_at hl 0 rfl) ?_
  refine lv_bipush (v := 23) hx hb dX6_readFact_1 (by decide +kernel) ?_
  refine dg_calli hS hA1 hA (va_runV (As := [.int 23]) (rest := []) F (c_rd_isOwn l g D o S 23 en kd vl n0 f_n0 (by omega) ke f_ke (by omega) (by omega) hkd hvl I s.heap.size) (cwV 1 hts (bw_V wB_21 wB_22 wB_23 wB_24 wB_20) rfl rfl rfl (by decide +kernel) ⟨by dsimp only; omega, by dsimp only; omega⟩) (dg_preV sX_209 rfl K ST hP hS hA1 hA) rfl rfl hl.1 rfl (lv_room (Nat.le_of_ble_eq_true rfl)) dX6_readFact_3 ⟨Nat.le_of_ble_eq_true rfl, Nat.le_of_ble_eq_true rfl⟩) (fun x_1 S_2 hw_2 H locs hP hS => ?_)
  rw [hw_2.1] at hP
  obtain ⟨hq_2, w_2_0, w_2_1, -⟩ := hw_2
  have hz_3 : (23 : Int32).toInt = 23 := by decide +kernel
  have w_2_0 : 0 ≤ (x_1).toInt ∧ (x_1).toInt ≤ 1 := w_2_0
  have w_2_1 : (x_1).toInt = 1 ↔ g_o kd vl ((23 : Int32)).toInt (n0 : Int32).toNatClampNeg = true := w_2_1
  refine lv_if_eq (tgt := 41) hx hb dX6_readFact_6 (dk_dq rfl) (fun c_4 => ?_) (fun c_4 => ?_)
  · as_aux_lemma =>
      have jc_4 := dk_eqc (k := 0) (by decide +kernel) c_4
      have qw_2_1 : g_o kd vl 23 (n0 : Int32).toNatClampNeg = false := by have h9 := g_iff_f w_2_1 (by omega); rw [show (23 : Int32).toInt = 23 from by decide +kernel] at h9; exact h9
      refine lv_aload_n hx hb dX6_readFact_41 rfl (lv_at hl 0 rfl) ?_
      refine lv_bipush (v := 91) hx hb dX6_readFact_42 (by decide +kernel) ?_
      refine dg_calli hS hA1 hA (va_runV (As := [.int 91]) (rest := []) F (c_rd_isSign l g D o S 91 en kd vl n0 f_n0 (by omega) ke f_ke (by omega) (by omega) hkd hvl I H.size) (cwV 1 hts (bw_V wB_34 wB_35 wB_36 wB_24 wB_33) rfl rfl rfl (by decide +kernel) ⟨by dsimp only; omega, by dsimp only; omega⟩) (dg_preV sX_209 rfl K ST hP hS hA1 hA) rfl rfl hl.1 rfl (lv_room (Nat.le_of_ble_eq_true rfl)) dX6_readFact_44 ⟨Nat.le_of_ble_eq_true rfl, Nat.le_of_ble_eq_true rfl⟩) (fun x_5 S_6 hw_6 H locs hP hS => ?_)
      rw [hw_6.1] at hP
      obtain ⟨hq_6, w_6_0, w_6_1, -⟩ := hw_6
      have hz_7 : (91 : Int32).toInt = 91 := by decide +kernel
      have w_6_0 : 0 ≤ (x_5).toInt ∧ (x_5).toInt ≤ 1 := w_6_0
      have w_6_1 : (x_5).toInt = 1 ↔ g_s kd vl ((91 : Int32)).toInt (n0 : Int32).toNatClampNeg = true := w_6_1
      refine lv_if_eq (tgt := 83) hx hb dX6_readFact_47 (dk_dq rfl) (fun c_8 => ?_) (fun c_8 => ?_)
      · as_aux_lemma =>
          have jc_8 := dk_eqc (k := 0) (by decide +kernel) c_8
          have qw_6_1 : g_s kd vl 91 (n0 : Int32).toNatClampNeg = false := by have h9 := g_iff_f w_6_1 (by omega); rw [show (91 : Int32).toInt = 91 from by decide +kernel] at h9; exact h9
          refine lv_aload_n hx hb dX6_readFact_83 rfl (lv_at hl 0 rfl) ?_
          refine lv_bipush (v := 24) hx hb dX6_readFact_84 (by decide +kernel) ?_
          refine dg_calli hS hA1 hA (va_runV (As := [.int 24]) (rest := []) F (c_rd_isOwn l g D o S 24 en kd vl n0 f_n0 (by omega) ke f_ke (by omega) (by omega) hkd hvl I H.size) (cwV 1 hts (bw_V wB_21 wB_22 wB_23 wB_24 wB_20) rfl rfl rfl (by decide +kernel) ⟨by dsimp only; omega, by dsimp only; omega⟩) (dg_preV sX_209 rfl K ST hP hS hA1 hA) rfl rfl hl.1 rfl (lv_room (Nat.le_of_ble_eq_true rfl)) dX6_readFact_86 ⟨Nat.le_of_ble_eq_true rfl, Nat.le_of_ble_eq_true rfl⟩) (fun x_9 S_10 hw_10 H locs hP hS => ?_)
          rw [hw_10.1] at hP
          obtain ⟨hq_10, w_10_0, w_10_1, -⟩ := hw_10
          have hz_11 : (24 : Int32).toInt = 24 := by decide +kernel
          have w_10_0 : 0 ≤ (x_9).toInt ∧ (x_9).toInt ≤ 1 := w_10_0
          have w_10_1 : (x_9).toInt = 1 ↔ g_o kd vl ((24 : Int32)).toInt (n0 : Int32).toNatClampNeg = true := w_10_1
          refine lv_if_eq (tgt := 104) hx hb dX6_readFact_89 (dk_dq rfl) (fun c_12 => ?_) (fun c_12 => ?_)
          · as_aux_lemma =>
              have jc_12 := dk_eqc (k := 0) (by decide +kernel) c_12
              have qw_10_1 : g_o kd vl 24 (n0 : Int32).toNatClampNeg = false := by have h9 := g_iff_f w_10_1 (by omega); rw [show (24 : Int32).toInt = 24 from by decide +kernel] at h9; exact h9
              refine lv_aload_n hx hb dX6_readFact_104 rfl (lv_at hl 0 rfl) ?_
              refine lv_iload_n hx hb dX6_readFact_105 rfl (lv_at hl 1 rfl) ?_
              refine dg_calli hS hA1 hA (va_runV (As := [.int dp]) (rest := []) F (cg_readComparing jl dp dq hdp hdq hLT hLS hLF l g D o S en kd vl S0 d0 gd hk_gd f_gd n0 f_n0 (by omega) ru f_ru (by omega) sc f_sc (by omega) ke f_ke (by omega) (by omega) hkd hvl (by omega) hd0 G9 I H.size) (cwV 1 hts (bw_V wB_136 wB_137 wB_138 wB_24 wB_135) rfl rfl rfl (by decide +kernel) ⟨by dsimp only; omega, by dsimp only; omega⟩) (dg_preV sX_209 rfl K ST hP hS hA1 hA) rfl rfl hl.1 rfl (lv_room (Nat.le_of_ble_eq_true rfl)) dX6_readFact_106 ⟨Nat.le_of_ble_eq_true rfl, Nat.le_of_ble_eq_true rfl⟩) (fun x_13 S_14 hw_14 H locs hP hS => ?_)
              obtain ⟨I_14, m_14, w_14_0, w_14_1, w_14_2, w_14_3, -⟩ := hw_14
              have M_14 := dg_sm.tr M_0 m_14 (dk_dq rfl) (dk_dq rfl)
              have w_14_0 : 0 ≤ (x_13).toInt ∧ (x_13).toInt ≤ 1 := w_14_0
              replace w_14_1 : m_hid ((x_13).toInt = 1 → q_as gd S S_14 sc (d_comp kd vl (x_lv kd vl (ru).toInt (jl + 2)).1 (d_lv kd vl (ru).toInt (jl + 2)).1 (n0 : Int32).toNatClampNeg)) := w_14_1
              have ap_14 : m_hid ((x_13).toInt = 1 → q_as gd S S_14 sc (d_comp kd vl (x_lv kd vl (ru).toInt (jl + 2)).1 (d_lv kd vl (ru).toInt (jl + 2)).1 (n0 : Int32).toNatClampNeg)) := m_hid.mk (fun q9 => (by have h9 := w_14_1.out q9; exact h9))
              obtain ⟨y_15, y_16, f_y_15, f_y_16, w_14_2⟩ := w_14_2
              have w_14_2 : ((y_15).toInt ≤ (en).toInt ∧ ((x_13).toInt = 1 → ((sc).toInt + 1 ≤ (y_16).toInt ∧ (y_16).toInt - (sc).toInt ≤ (y_15).toInt - (n0).toInt))) ∧ g_ans x_13 (x_comp kd vl (x_lv kd vl (ru).toInt (jl + 2)).1 (n0 : Int32).toNatClampNeg) (y_15 : Int32).toNatClampNeg := w_14_2
              have b_y_15 : 0 ≤ (y_15).toInt ∧ (y_15).toInt ≤ 1600 := dg_I.intb (lo := 0) (hi := 1600) I_14 sX_209 (by decide +kernel) f_y_15
              have b_y_16 : 0 ≤ (y_16).toInt ∧ (y_16).toInt ≤ 1600 := dg_I.intb (lo := 0) (hi := 1600) I_14 sX_209 (by decide +kernel) f_y_16
              refine W.widen (k := 0) (n := 0) (Nat.le_of_ble_eq_true rfl) (Nat.le_of_ble_eq_true rfl) ?_
              exact dg_iret hx hb hr hlocks (dk_znar2 (by omega)) hP hS ⟨I_14, M_14, (by omega), (m_hid.mk (fun q9 => q_as.to (ap_14.out (by omega)) (by rw [d_lv_f (e := (jl + 1))]; simp [d_fact, qw_2_1, qw_6_1, qw_10_1]))), ⟨y_15, y_16, f_y_15, f_y_16, ⟨⟨by omega, by omega⟩, (g_ans.to (E := x_comp kd vl (x_lv kd vl (ru).toInt (jl + 2)).1 (n0 : Int32).toNatClampNeg) (by have h9 := w_14_2.2; exact h9) (by show x_fact kd vl (x_lv kd vl (ru).toInt (jl + 1)).2.2 (x_lv kd vl (ru).toInt (jl + 1)).2.1 (x_lv kd vl (ru).toInt (jl + 2)).1 (n0 : Int32).toNatClampNeg = _; simp [x_fact, g_tk, qw_2_1, qw_6_1, qw_10_1]))⟩⟩, w_14_3, trivial⟩ dX6_readFact_109
          · as_aux_lemma =>
              have jc_12 := dk_neqc (k := 0) (by decide +kernel) c_12
              have qw_10_1 : g_o kd vl 24 (n0 : Int32).toNatClampNeg = true := by have h9 := w_10_1.mp (by omega); rw [show (24 : Int32).toInt = 24 from by decide +kernel] at h9; exact h9
              refine lv_aload_n hx hb dX6_readFact_92 rfl (lv_at hl 0 rfl) ?_
              refine dg_callv hS hA1 hA (va_runV (As := []) (rest := []) F (c_rd_pass l g D o S en kd vl n0 f_n0 (by omega) ke f_ke (by omega) (by omega) hkd hvl I H.size) (cwV 0 hts (bw_V wB_26 wB_27 wB_28 wB_24 wB_25) rfl rfl rfl (by decide +kernel) ⟨by dsimp only; omega, by dsimp only; omega⟩) (dg_preV sX_209 rfl K ST hP hS hA1 hA) rfl rfl hl.1 rfl (lv_room (Nat.le_of_ble_eq_true rfl)) dX6_readFact_93 ⟨Nat.le_of_ble_eq_true rfl, Nat.le_of_ble_eq_true rfl⟩) (fun S_17 hw_17 H locs hP hS => ?_)
              obtain ⟨I_17, m_17, w_17_0, -⟩ := hw_17
              have M_17 := dg_sm.tr M_0 m_17 (dk_dq rfl) (dk_dq rfl)
              obtain ⟨y_18, f_y_18, w_17_0⟩ := w_17_0
              have w_17_0 : (y_18).toInt ≤ (en).toInt ∧ ((kd (n0 : Int32).toNatClampNeg).toInt ≠ 0 → (y_18 : Int32).toNatClampNeg = (n0 : Int32).toNatClampNeg + 1) := w_17_0
              have b_y_18 : 0 ≤ (y_18).toInt ∧ (y_18).toInt ≤ 1600 := dg_I.intb (lo := 0) (hi := 1600) I_17 sX_209 (by decide +kernel) f_y_18
              have nq_y_18 : (y_18 : Int32).toNatClampNeg = (n0 : Int32).toNatClampNeg + 1 := by have h9 := w_17_0.2 (g_o_ne qw_10_1); omega
              have ni_y_18 : (y_18).toInt = (n0).toInt + 1 := by have h8 := dk_clN y_18; have h9 := dk_clN n0; omega
              refine lv_aload_n hx hb dX6_readFact_96 rfl (lv_at hl 0 rfl) ?_
              refine lv_bipush (v := (-7)) hx hb dX6_readFact_97 (by decide +kernel) ?_
              refine dg_callv hS hA1 hA (va_runV (As := [.int (-7)]) (rest := []) F (c_rd_put l g D o S_17 (-7) en S0 d0 gd hk_gd ((m_17.1 209 3 _ sX_209 (dk_dq rfl)).trans f_gd) y_18 f_y_18 (by omega) sc ((m_17.1 209 7 _ sX_209 (dk_dq rfl)).trans f_sc) (by omega) ke ((congrFun (m_17.2 211 _ sX_211 (dk_dq rfl)).1 _).trans f_ke) (by omega) (by omega) hd0 (G9X.keep G9 m_17 (dk_dq rfl)) I_17 H.size) (cwV 1 hts (bw_V wB_96 wB_97 wB_98 wB_24 wB_95) rfl rfl rfl (by decide +kernel) ⟨by dsimp only; omega, by dsimp only; omega⟩) (dg_preV sX_209 rfl K ST hP hS hA1 hA) rfl rfl hl.1 rfl (lv_room (Nat.le_of_ble_eq_true rfl)) dX6_readFact_99 ⟨Nat.le_of_ble_eq_true rfl, Nat.le_of_ble_eq_true rfl⟩) (fun S_19 hw_19 H locs hP hS => ?_)
              obtain ⟨I_19, m_19, w_19_0, w_19_1, w_19_2, -⟩ := hw_19
              have M_19 := dg_sm.tr M_17 m_19 (dk_dq rfl) (dk_dq rfl)
              have hz_20 : (-7 : Int32).toInt = (-7) := by decide +kernel
              replace w_19_0 : m_hid ((sc).toInt < 1600 → q_as gd S_17 S_19 sc [((-7 : Int32)).toInt]) := w_19_0
              have ap_19 : q_as gd S S_19 sc ([-7]) := (q_as.fst (m_17.2 (gd + 9) _ (rX_9 gd hk_gd) (dk_dq rfl)).1 (by have h9 := w_19_0.out (by omega); rw [show (-7 : Int32).toInt = -7 from by decide +kernel] at h9; exact h9))
              obtain ⟨y_21, f_y_21, w_19_1⟩ := w_19_1
              have w_19_1 : (sc).toInt < 1600 → (y_21).toInt = (sc).toInt + 1 := w_19_1
              have b_y_21 : 0 ≤ (y_21).toInt ∧ (y_21).toInt ≤ 1600 := dg_I.intb (lo := 0) (hi := 1600) I_19 sX_209 (by decide +kernel) f_y_21
              refine lv_iconst (v := 1) hx hb dX6_readFact_102 (by decide +kernel) ?_
              have hz_22 : (1 : Int32).toInt = 1 := by decide +kernel
              have hz_23 : (1 : Int32).toInt = 1 := by decide +kernel
              have hz_24 : (1 : Int32).toInt = 1 := by decide +kernel
              have hz_25 : (1 : Int32).toInt = 1 := by decide +kernel
              refine W.widen (k := 0) (n := 0) (Nat.le_of_ble_eq_true rfl) (Nat.le_of_ble_eq_true rfl) ?_
              exact dg_iret hx hb hr hlocks (by decide +kernel) hP hS ⟨I_19, M_19, (by decide +kernel), (m_hid.mk (fun q9 => q_as.to ap_19 (by rw [d_lv_f (e := (jl + 1))]; simp [d_fact, qw_2_1, qw_6_1, qw_10_1, nq_y_18]))), ⟨y_18, y_21, ((m_19.1 209 4 _ sX_209 (dk_dq rfl)).trans f_y_18), f_y_21, ⟨⟨by omega, by omega⟩, g_ans.y (by omega) (by show x_fact kd vl (x_lv kd vl (ru).toInt (jl + 1)).2.2 (x_lv kd vl (ru).toInt (jl + 1)).2.1 (x_lv kd vl (ru).toInt (jl + 2)).1 (n0 : Int32).toNatClampNeg = _; simp [x_fact, g_tk, qw_2_1, qw_6_1, qw_10_1, nq_y_18])⟩⟩, w_19_2, trivial⟩ dX6_readFact_103
      · as_aux_lemma =>
          have jc_8 := dk_neqc (k := 0) (by decide +kernel) c_8
          have qw_6_1 : g_s kd vl 91 (n0 : Int32).toNatClampNeg = true := by have h9 := w_6_1.mp (by omega); rw [show (91 : Int32).toInt = 91 from by decide +kernel] at h9; exact h9
          refine lv_aload_n hx hb dX6_readFact_50 rfl (lv_at hl 0 rfl) ?_
          refine lv_iload_n hx hb dX6_readFact_51 rfl (lv_at hl 1 rfl) ?_
          refine dg_calli hS hA1 hA (va_runV (As := [.int dp]) (rest := []) F (cg_passOpening jl dp dq hdp hdq hLT hLS hLF l g D o S en kd vl n0 f_n0 (by omega) ke f_ke (by omega) (by omega) hkd hvl I H.size) (cwV 1 hts (bw_V wB_88 wB_89 wB_90 wB_24 wB_87) rfl rfl rfl (by decide +kernel) ⟨by dsimp only; omega, by dsimp only; omega⟩) (dg_preV sX_209 rfl K ST hP hS hA1 hA) rfl rfl hl.1 rfl (lv_room (Nat.le_of_ble_eq_true rfl)) dX6_readFact_52 ⟨Nat.le_of_ble_eq_true rfl, Nat.le_of_ble_eq_true rfl⟩) (fun x_26 S_27 hw_27 H locs hP hS => ?_)
          obtain ⟨I_27, m_27, w_27_0, w_27_1, -⟩ := hw_27
          have M_27 := dg_sm.tr M_0 m_27 (dk_dq rfl) (dk_dq rfl)
          have w_27_0 : 1 ≤ (x_26).toInt ∧ (x_26).toInt ≤ 1 := w_27_0
          obtain ⟨y_28, f_y_28, w_27_1⟩ := w_27_1
          have w_27_1 : (y_28).toInt ≤ (en).toInt ∧ ((kd (n0 : Int32).toNatClampNeg).toInt ≠ 0 → (y_28 : Int32).toNatClampNeg = (n0 : Int32).toNatClampNeg + 1) := w_27_1
          have b_y_28 : 0 ≤ (y_28).toInt ∧ (y_28).toInt ≤ 1600 := dg_I.intb (lo := 0) (hi := 1600) I_27 sX_209 (by decide +kernel) f_y_28
          have nq_y_28 : (y_28 : Int32).toNatClampNeg = (n0 : Int32).toNatClampNeg + 1 := by have h9 := w_27_1.2 (g_s_ne qw_6_1); omega
          have ni_y_28 : (y_28).toInt = (n0).toInt + 1 := by have h8 := dk_clN y_28; have h9 := dk_clN n0; omega
          refine lv_if_eq (tgt := 81) hx hb dX6_readFact_55 (dk_dq rfl) (fun c => absurd c (fun z => absurd (dk_eqc (k := 0) (by decide +kernel) z) (by omega))) (fun _ => ?_)
          refine lv_aload_n hx hb dX6_readFact_58 rfl (lv_at hl 0 rfl) ?_
          refine lv_iload_n hx hb dX6_readFact_59 rfl (lv_at hl 1 rfl) ?_
          refine lv_iconst (v := 1) hx hb dX6_readFact_60 (by decide +kernel) ?_
          refine lv_iadd hx hb dX6_readFact_61 ?_
          refine dk_top (y := dq) hdq ?_
          refine dg_calli hS hA1 hA (va_runV (As := [.int dq]) (rest := []) F (hLT l g D o S_27 en kd vl S0 d0 gd hk_gd ((m_27.1 209 3 _ sX_209 (dk_dq rfl)).trans f_gd) y_28 f_y_28 (by omega) ru ((m_27.1 209 6 _ sX_209 (dk_dq rfl)).trans f_ru) (by omega) sc ((m_27.1 209 7 _ sX_209 (dk_dq rfl)).trans f_sc) (by omega) ke ((congrFun (m_27.2 211 _ sX_211 (dk_dq rfl)).1 _).trans f_ke) (by omega) (by omega) (fun k9 h9 => (congrFun (m_27.2 211 _ sX_211 (dk_dq rfl)).1 k9).trans (hkd k9 h9)) (fun k9 h9 => (congrFun (m_27.2 213 _ sX_213 (dk_dq rfl)).1 k9).trans (hvl k9 h9)) (by omega) hd0 (G9X.keep G9 m_27 (dk_dq rfl)) I_27 H.size) (cwV 1 hts (bw_V wB_148 wB_149 wB_150 wB_24 wB_147) rfl rfl rfl (by decide +kernel) ⟨by dsimp only; omega, by dsimp only; omega⟩) (dg_preV sX_209 rfl K ST hP hS hA1 hA) rfl rfl hl.1 rfl (lv_room (Nat.le_of_ble_eq_true rfl)) dX6_readFact_62 ⟨Nat.le_of_ble_eq_true rfl, Nat.le_of_ble_eq_true rfl⟩) (fun x_29 S_30 hw_30 H locs hP hS => ?_)
          obtain ⟨I_30, m_30, w_30_0, w_30_1, w_30_2, w_30_3, -⟩ := hw_30
          have M_30 := dg_sm.tr M_27 m_30 (dk_dq rfl) (dk_dq rfl)
          have w_30_0 : 0 ≤ (x_29).toInt ∧ (x_29).toInt ≤ 1 := w_30_0
          replace w_30_1 : m_hid ((x_29).toInt = 1 → q_as gd S_27 S_30 sc ((d_lv kd vl (ru).toInt (jl + 1)).2.1 (y_28 : Int32).toNatClampNeg)) := w_30_1
          have ap_30 : m_hid ((x_29).toInt = 1 → q_as gd S S_30 sc ((d_lv kd vl (ru).toInt (jl + 1)).2.1 ((n0 : Int32).toNatClampNeg + 1))) := m_hid.mk (fun q9 => (q_as.fst (m_27.2 (gd + 9) _ (rX_9 gd hk_gd) (dk_dq rfl)).1 (by have h9 := w_30_1.out q9; rw [nq_y_28] at h9; exact h9)))
          obtain ⟨y_31, y_32, f_y_31, f_y_32, w_30_2⟩ := w_30_2
          have w_30_2 : ((y_31).toInt ≤ (en).toInt ∧ ((x_29).toInt = 1 → ((sc).toInt + 1 ≤ (y_32).toInt ∧ (y_32).toInt - (sc).toInt ≤ (y_31).toInt - (y_28).toInt))) ∧ g_ans x_29 ((x_lv kd vl (ru).toInt (jl + 1)).2.1 (y_28 : Int32).toNatClampNeg) (y_31 : Int32).toNatClampNeg := w_30_2
          have b_y_31 : 0 ≤ (y_31).toInt ∧ (y_31).toInt ≤ 1600 := dg_I.intb (lo := 0) (hi := 1600) I_30 sX_209 (by decide +kernel) f_y_31
          have b_y_32 : 0 ≤ (y_32).toInt ∧ (y_32).toInt ≤ 1600 := dg_I.intb (lo := 0) (hi := 1600) I_30 sX_209 (by decide +kernel) f_y_32
          refine lv_if_eq (tgt := 81) hx hb dX6_readFact_65 (dk_dq rfl) (fun c_33 => ?_) (fun c_33 => ?_)
          · have jc_33 := dk_eqc (k := 0) (by decide +kernel) c_33
            have qw_30_2 : (x_lv kd vl (ru).toInt (jl + 1)).2.1 ((n0 : Int32).toNatClampNeg + 1) = none := by have h9 := w_30_2.2.2 (by omega); rw [nq_y_28] at h9; exact h9
            refine lv_iconst (v := 0) hx hb dX6_readFact_81 (by decide +kernel) ?_
            have hz_34 : (0 : Int32).toInt = 0 := by decide +kernel
            have hz_35 : (0 : Int32).toInt = 0 := by decide +kernel
            have hz_36 : (0 : Int32).toInt = 0 := by decide +kernel
            have hz_37 : (0 : Int32).toInt = 0 := by decide +kernel
            refine W.widen (k := 0) (n := 0) (Nat.le_of_ble_eq_true rfl) (Nat.le_of_ble_eq_true rfl) ?_
            exact dg_iret hx hb hr hlocks (by decide +kernel) hP hS ⟨I_30, M_30, (by decide +kernel), (m_hid.mk (fun q9 => absurd q9 (by omega))), ⟨y_31, y_32, f_y_31, f_y_32, ⟨⟨by omega, by omega⟩, g_ans.n (by omega) (by show x_fact kd vl (x_lv kd vl (ru).toInt (jl + 1)).2.2 (x_lv kd vl (ru).toInt (jl + 1)).2.1 (x_lv kd vl (ru).toInt (jl + 2)).1 (n0 : Int32).toNatClampNeg = _; simp [x_fact, g_tk, qw_2_1, qw_6_1, nq_y_28, qw_30_2])⟩⟩, w_30_3, trivial⟩ dX6_readFact_82
          · as_aux_lemma =>
              have jc_33 := dk_neqc (k := 0) (by decide +kernel) c_33
              have qw_30_2 : (x_lv kd vl (ru).toInt (jl + 1)).2.1 ((n0 : Int32).toNatClampNeg + 1) = some (y_31 : Int32).toNatClampNeg := by have h9 := w_30_2.2.1 (by omega); rw [nq_y_28] at h9; exact h9
              refine lv_aload_n hx hb dX6_readFact_68 rfl (lv_at hl 0 rfl) ?_
              refine lv_bipush (v := 93) hx hb dX6_readFact_69 (by decide +kernel) ?_
              refine dg_calli hS hA1 hA (va_runV (As := [.int 93]) (rest := []) F (c_rd_takeSign l g D o S_30 93 en kd vl y_31 f_y_31 (by omega) ke ((congrFun ((m_30.2 211 _ sX_211 (dk_dq rfl)).1.trans (m_27.2 211 _ sX_211 (dk_dq rfl)).1) _).trans f_ke) (by omega) (by omega) (fun k9 h9 => (congrFun ((m_30.2 211 _ sX_211 (dk_dq rfl)).1.trans (m_27.2 211 _ sX_211 (dk_dq rfl)).1) k9).trans (hkd k9 h9)) (fun k9 h9 => (congrFun ((m_30.2 213 _ sX_213 (dk_dq rfl)).1.trans (m_27.2 213 _ sX_213 (dk_dq rfl)).1) k9).trans (hvl k9 h9)) I_30 H.size) (cwV 1 hts (bw_V wB_152 wB_153 wB_154 wB_24 wB_151) rfl rfl rfl (by decide +kernel) ⟨by dsimp only; omega, by dsimp only; omega⟩) (dg_preV sX_209 rfl K ST hP hS hA1 hA) rfl rfl hl.1 rfl (lv_room (Nat.le_of_ble_eq_true rfl)) dX6_readFact_71 ⟨Nat.le_of_ble_eq_true rfl, Nat.le_of_ble_eq_true rfl⟩) (fun x_38 S_39 hw_39 H locs hP hS => ?_)
              obtain ⟨I_39, m_39, w_39_0, w_39_1, -⟩ := hw_39
              have M_39 := dg_sm.tr M_30 m_39 (dk_dq rfl) (dk_dq rfl)
              have hz_40 : (93 : Int32).toInt = 93 := by decide +kernel
              have w_39_0 : 0 ≤ (x_38).toInt ∧ (x_38).toInt ≤ 1 := w_39_0
              obtain ⟨y_41, f_y_41, w_39_1⟩ := w_39_1
              have w_39_1 : (y_41).toInt ≤ (en).toInt ∧ g_ans x_38 (g_tk kd vl ((93 : Int32)).toInt (y_31 : Int32).toNatClampNeg) (y_41 : Int32).toNatClampNeg := w_39_1
              have b_y_41 : 0 ≤ (y_41).toInt ∧ (y_41).toInt ≤ 1600 := dg_I.intb (lo := 0) (hi := 1600) I_39 sX_209 (by decide +kernel) f_y_41
              refine lv_if_eq (tgt := 81) hx hb dX6_readFact_74 (dk_dq rfl) (fun c_42 => ?_) (fun c_42 => ?_)
              · have jc_42 := dk_eqc (k := 0) (by decide +kernel) c_42
                have qw_39_1 : g_tk kd vl 93 (y_31 : Int32).toNatClampNeg = none := by have h9 := w_39_1.2.2 (by omega); rw [show (93 : Int32).toInt = 93 from by decide +kernel] at h9; exact h9
                have qw_39_1s := g_tk_none qw_39_1
                refine lv_iconst (v := 0) hx hb dX6_readFact_81 (by decide +kernel) ?_
                have hz_43 : (0 : Int32).toInt = 0 := by decide +kernel
                have hz_44 : (0 : Int32).toInt = 0 := by decide +kernel
                have hz_45 : (0 : Int32).toInt = 0 := by decide +kernel
                have hz_46 : (0 : Int32).toInt = 0 := by decide +kernel
                refine W.widen (k := 0) (n := 0) (Nat.le_of_ble_eq_true rfl) (Nat.le_of_ble_eq_true rfl) ?_
                exact dg_iret hx hb hr hlocks (by decide +kernel) hP hS ⟨I_39, M_39, (by decide +kernel), (m_hid.mk (fun q9 => absurd q9 (by omega))), ⟨y_41, y_32, f_y_41, ((m_39.1 209 7 _ sX_209 (dk_dq rfl)).trans f_y_32), ⟨⟨by omega, by omega⟩, g_ans.n (by omega) (by show x_fact kd vl (x_lv kd vl (ru).toInt (jl + 1)).2.2 (x_lv kd vl (ru).toInt (jl + 1)).2.1 (x_lv kd vl (ru).toInt (jl + 2)).1 (n0 : Int32).toNatClampNeg = _; simp [x_fact, g_tk, qw_2_1, qw_6_1, nq_y_28, qw_30_2, qw_39_1s])⟩⟩, (G9X.keep w_30_3 m_39 (dk_dq rfl)), trivial⟩ dX6_readFact_82
              · have jc_42 := dk_neqc (k := 0) (by decide +kernel) c_42
                have qw_39_1 : g_tk kd vl 93 (y_31 : Int32).toNatClampNeg = some (y_41 : Int32).toNatClampNeg := by have h9 := w_39_1.2.1 (by omega); rw [show (93 : Int32).toInt = 93 from by decide +kernel] at h9; exact h9
                have qw_39_1s := (g_tk_some qw_39_1).1
                have nq_y_41 : (y_41 : Int32).toNatClampNeg = (y_31 : Int32).toNatClampNeg + 1 := by have h9 := (g_tk_some qw_39_1).2; omega
                have ni_y_41 : (y_41).toInt = (y_31).toInt + 1 := by have h8 := dk_clN y_41; have h9 := dk_clN y_31; omega
                refine lv_iconst (v := 1) hx hb dX6_readFact_77 (by decide +kernel) ?_
                refine lv_goto (tgt := 82) hx hb dX6_readFact_78 (dk_dq rfl) ?_
                have hz_47 : (1 : Int32).toInt = 1 := by decide +kernel
                have hz_48 : (1 : Int32).toInt = 1 := by decide +kernel
                have hz_49 : (1 : Int32).toInt = 1 := by decide +kernel
                have hz_50 : (1 : Int32).toInt = 1 := by decide +kernel
                refine W.widen (k := 0) (n := 0) (Nat.le_of_ble_eq_true rfl) (Nat.le_of_ble_eq_true rfl) ?_
                exact dg_iret hx hb hr hlocks (by decide +kernel) hP hS ⟨I_39, M_39, (by decide +kernel), (m_hid.mk (fun q9 => q_as.to (q_as.keep (ap_30.out (by omega)) (m_39.1 209 7 _ sX_209 (dk_dq rfl)) (m_39.2 (gd + 9) _ (rX_9 gd hk_gd) (dk_dq rfl)).1) (by rw [d_lv_f (e := (jl + 1))]; simp [d_fact, qw_2_1, qw_6_1, nq_y_28, qw_30_2, qw_39_1s, nq_y_41]))), ⟨y_41, y_32, f_y_41, ((m_39.1 209 7 _ sX_209 (dk_dq rfl)).trans f_y_32), ⟨⟨by omega, by omega⟩, g_ans.y (by omega) (by show x_fact kd vl (x_lv kd vl (ru).toInt (jl + 1)).2.2 (x_lv kd vl (ru).toInt (jl + 1)).2.1 (x_lv kd vl (ru).toInt (jl + 2)).1 (n0 : Int32).toNatClampNeg = _; simp [x_fact, g_tk, qw_2_1, qw_6_1, nq_y_28, qw_30_2, qw_39_1s, nq_y_41])⟩⟩, (G9X.keep w_30_3 m_39 (dk_dq rfl)), trivial⟩ dX6_readFact_82
  · as_aux_lemma =>
      have jc_4 := dk_neqc (k := 0) (by decide +kernel) c_4
      have qw_2_1 : g_o kd vl 23 (n0 : Int32).toNatClampNeg = true := by have h9 := w_2_1.mp (by omega); rw [show (23 : Int32).toInt = 23 from by decide +kernel] at h9; exact h9
      refine lv_aload_n hx hb dX6_readFact_9 rfl (lv_at hl 0 rfl) ?_
      refine lv_iload_n hx hb dX6_readFact_10 rfl (lv_at hl 1 rfl) ?_
      refine dg_calli hS hA1 hA (va_runV (As := [.int dp]) (rest := []) F (cg_passOpening jl dp dq hdp hdq hLT hLS hLF l g D o S en kd vl n0 f_n0 (by omega) ke f_ke (by omega) (by omega) hkd hvl I H.size) (cwV 1 hts (bw_V wB_88 wB_89 wB_90 wB_24 wB_87) rfl rfl rfl (by decide +kernel) ⟨by dsimp only; omega, by dsimp only; omega⟩) (dg_preV sX_209 rfl K ST hP hS hA1 hA) rfl rfl hl.1 rfl (lv_room (Nat.le_of_ble_eq_true rfl)) dX6_readFact_11 ⟨Nat.le_of_ble_eq_true rfl, Nat.le_of_ble_eq_true rfl⟩) (fun x_51 S_52 hw_52 H locs hP hS => ?_)
      obtain ⟨I_52, m_52, w_52_0, w_52_1, -⟩ := hw_52
      have M_52 := dg_sm.tr M_0 m_52 (dk_dq rfl) (dk_dq rfl)
      have w_52_0 : 1 ≤ (x_51).toInt ∧ (x_51).toInt ≤ 1 := w_52_0
      obtain ⟨y_53, f_y_53, w_52_1⟩ := w_52_1
      have w_52_1 : (y_53).toInt ≤ (en).toInt ∧ ((kd (n0 : Int32).toNatClampNeg).toInt ≠ 0 → (y_53 : Int32).toNatClampNeg = (n0 : Int32).toNatClampNeg + 1) := w_52_1
      have b_y_53 : 0 ≤ (y_53).toInt ∧ (y_53).toInt ≤ 1600 := dg_I.intb (lo := 0) (hi := 1600) I_52 sX_209 (by decide +kernel) f_y_53
      have nq_y_53 : (y_53 : Int32).toNatClampNeg = (n0 : Int32).toNatClampNeg + 1 := by have h9 := w_52_1.2 (g_o_ne qw_2_1); omega
      have ni_y_53 : (y_53).toInt = (n0).toInt + 1 := by have h8 := dk_clN y_53; have h9 := dk_clN n0; omega
      refine lv_if_eq (tgt := 31) hx hb dX6_readFact_14 (dk_dq rfl) (fun c => absurd c (fun z => absurd (dk_eqc (k := 0) (by decide +kernel) z) (by omega))) (fun _ => ?_)
      refine lv_aload_n hx hb dX6_readFact_17 rfl (lv_at hl 0 rfl) ?_
      refine lv_iload_n hx hb dX6_readFact_18 rfl (lv_at hl 1 rfl) ?_
      refine lv_iconst (v := 1) hx hb dX6_readFact_19 (by decide +kernel) ?_
      refine lv_iadd hx hb dX6_readFact_20 ?_
      refine dk_top (y := dq) hdq ?_
      refine dg_calli hS hA1 hA (va_runV (As := [.int dq]) (rest := []) F (hLF l g D o S_52 en kd vl S0 d0 gd hk_gd ((m_52.1 209 3 _ sX_209 (dk_dq rfl)).trans f_gd) y_53 f_y_53 (by omega) ru ((m_52.1 209 6 _ sX_209 (dk_dq rfl)).trans f_ru) (by omega) sc ((m_52.1 209 7 _ sX_209 (dk_dq rfl)).trans f_sc) (by omega) ke ((congrFun (m_52.2 211 _ sX_211 (dk_dq rfl)).1 _).trans f_ke) (by omega) (by omega) (fun k9 h9 => (congrFun (m_52.2 211 _ sX_211 (dk_dq rfl)).1 k9).trans (hkd k9 h9)) (fun k9 h9 => (congrFun (m_52.2 213 _ sX_213 (dk_dq rfl)).1 k9).trans (hvl k9 h9)) (by omega) hd0 (G9X.keep G9 m_52 (dk_dq rfl)) I_52 H.size) (cwV 1 hts (bw_V wB_140 wB_141 wB_142 wB_24 wB_139) rfl rfl rfl (by decide +kernel) ⟨by dsimp only; omega, by dsimp only; omega⟩) (dg_preV sX_209 rfl K ST hP hS hA1 hA) rfl rfl hl.1 rfl (lv_room (Nat.le_of_ble_eq_true rfl)) dX6_readFact_21 ⟨Nat.le_of_ble_eq_true rfl, Nat.le_of_ble_eq_true rfl⟩) (fun x_54 S_55 hw_55 H locs hP hS => ?_)
      obtain ⟨I_55, m_55, w_55_0, w_55_1, w_55_2, w_55_3, -⟩ := hw_55
      have M_55 := dg_sm.tr M_52 m_55 (dk_dq rfl) (dk_dq rfl)
      have w_55_0 : 0 ≤ (x_54).toInt ∧ (x_54).toInt ≤ 1 := w_55_0
      replace w_55_1 : m_hid ((x_54).toInt = 1 → q_as gd S_52 S_55 sc ((d_lv kd vl (ru).toInt (jl + 1)).2.2 (y_53 : Int32).toNatClampNeg)) := w_55_1
      have ap_55 : m_hid ((x_54).toInt = 1 → q_as gd S S_55 sc ((d_lv kd vl (ru).toInt (jl + 1)).2.2 ((n0 : Int32).toNatClampNeg + 1))) := m_hid.mk (fun q9 => (q_as.fst (m_52.2 (gd + 9) _ (rX_9 gd hk_gd) (dk_dq rfl)).1 (by have h9 := w_55_1.out q9; rw [nq_y_53] at h9; exact h9)))
      obtain ⟨y_56, y_57, f_y_56, f_y_57, w_55_2⟩ := w_55_2
      have w_55_2 : ((y_56).toInt ≤ (en).toInt ∧ ((x_54).toInt = 1 → ((sc).toInt + 1 ≤ (y_57).toInt ∧ (y_57).toInt - (sc).toInt ≤ (y_56).toInt - (y_53).toInt))) ∧ g_ans x_54 ((x_lv kd vl (ru).toInt (jl + 1)).2.2 (y_53 : Int32).toNatClampNeg) (y_56 : Int32).toNatClampNeg := w_55_2
      have b_y_56 : 0 ≤ (y_56).toInt ∧ (y_56).toInt ≤ 1600 := dg_I.intb (lo := 0) (hi := 1600) I_55 sX_209 (by decide +kernel) f_y_56
      have b_y_57 : 0 ≤ (y_57).toInt ∧ (y_57).toInt ≤ 1600 := dg_I.intb (lo := 0) (hi := 1600) I_55 sX_209 (by decide +kernel) f_y_57
      refine lv_if_eq (tgt := 31) hx hb dX6_readFact_24 (dk_dq rfl) (fun c_58 => ?_) (fun c_58 => ?_)
      · as_aux_lemma =>
          have jc_58 := dk_eqc (k := 0) (by decide +kernel) c_58
          have qw_55_2 : (x_lv kd vl (ru).toInt (jl + 1)).2.2 ((n0 : Int32).toNatClampNeg + 1) = none := by have h9 := w_55_2.2.2 (by omega); rw [nq_y_53] at h9; exact h9
          refine lv_iconst (v := 0) hx hb dX6_readFact_31 (by decide +kernel) ?_
          refine lv_istore_n (lv' := [(2, .int 0), (0, .ref (o + 209)), (1, .int dp)]) hx hb dX6_readFact_32 rfl hl (dk_dq rfl) rfl (fun ls hl => ?_)
          refine lv_aload_n hx hb dX6_readFact_33 rfl (lv_at hl 1 rfl) ?_
          refine lv_bipush (v := (-8)) hx hb dX6_readFact_34 (by decide +kernel) ?_
          refine dg_callv hS hA1 hA (va_runV (As := [.int (-8)]) (rest := []) F (c_rd_put l g D o S_55 (-8) en S0 d0 gd hk_gd (((m_55.1 209 3 _ sX_209 (dk_dq rfl)).trans (m_52.1 209 3 _ sX_209 (dk_dq rfl))).trans f_gd) y_56 f_y_56 (by omega) y_57 f_y_57 (by omega) ke ((congrFun ((m_55.2 211 _ sX_211 (dk_dq rfl)).1.trans (m_52.2 211 _ sX_211 (dk_dq rfl)).1) _).trans f_ke) (by omega) (by omega) hd0 w_55_3 I_55 H.size) (cwV 1 hts (bw_V wB_96 wB_97 wB_98 wB_24 wB_95) rfl rfl rfl (by decide +kernel) ⟨by dsimp only; omega, by dsimp only; omega⟩) (dg_preV sX_209 rfl K ST hP hS hA1 hA) rfl rfl hl.1 rfl (lv_room (Nat.le_of_ble_eq_true rfl)) dX6_readFact_36 ⟨Nat.le_of_ble_eq_true rfl, Nat.le_of_ble_eq_true rfl⟩) (fun S_59 hw_59 H locs hP hS => ?_)
          obtain ⟨I_59, m_59, w_59_0, w_59_1, w_59_2, -⟩ := hw_59
          have M_59 := dg_sm.tr M_55 m_59 (dk_dq rfl) (dk_dq rfl)
          have hz_60 : (-8 : Int32).toInt = (-8) := by decide +kernel
          replace w_59_0 : m_hid ((y_57).toInt < 1600 → q_as gd S_55 S_59 y_57 [((-8 : Int32)).toInt]) := w_59_0
          obtain ⟨y_61, f_y_61, w_59_1⟩ := w_59_1
          have w_59_1 : (y_57).toInt < 1600 → (y_61).toInt = (y_57).toInt + 1 := w_59_1
          have b_y_61 : 0 ≤ (y_61).toInt ∧ (y_61).toInt ≤ 1600 := dg_I.intb (lo := 0) (hi := 1600) I_59 sX_209 (by decide +kernel) f_y_61
          refine lv_iload_n hx hb dX6_readFact_39 rfl (lv_at hl 0 rfl) ?_
          have hz_62 : (0 : Int32).toInt = 0 := by decide +kernel
          have hz_63 : (0 : Int32).toInt = 0 := by decide +kernel
          have hz_64 : (0 : Int32).toInt = 0 := by decide +kernel
          have hz_65 : (0 : Int32).toInt = 0 := by decide +kernel
          refine W.widen (k := 0) (n := 0) (Nat.le_of_ble_eq_true rfl) (Nat.le_of_ble_eq_true rfl) ?_
          exact dg_iret hx hb hr hlocks (by decide +kernel) hP hS ⟨I_59, M_59, (by decide +kernel), (m_hid.mk (fun q9 => absurd q9 (by omega))), ⟨y_56, y_61, ((m_59.1 209 4 _ sX_209 (dk_dq rfl)).trans f_y_56), f_y_61, ⟨⟨by omega, by omega⟩, g_ans.n (by omega) (by show x_fact kd vl (x_lv kd vl (ru).toInt (jl + 1)).2.2 (x_lv kd vl (ru).toInt (jl + 1)).2.1 (x_lv kd vl (ru).toInt (jl + 2)).1 (n0 : Int32).toNatClampNeg = _; simp [x_fact, g_tk, qw_2_1, nq_y_53, qw_55_2])⟩⟩, w_59_2, trivial⟩ dX6_readFact_40
      · as_aux_lemma =>
          have jc_58 := dk_neqc (k := 0) (by decide +kernel) c_58
          have qw_55_2 : (x_lv kd vl (ru).toInt (jl + 1)).2.2 ((n0 : Int32).toNatClampNeg + 1) = some (y_56 : Int32).toNatClampNeg := by have h9 := w_55_2.2.1 (by omega); rw [nq_y_53] at h9; exact h9
          refine lv_iconst (v := 1) hx hb dX6_readFact_27 (by decide +kernel) ?_
          refine lv_goto (tgt := 32) hx hb dX6_readFact_28 (dk_dq rfl) ?_
          refine lv_istore_n (lv' := [(2, .int 1), (0, .ref (o + 209)), (1, .int dp)]) hx hb dX6_readFact_32 rfl hl (dk_dq rfl) rfl (fun ls hl => ?_)
          refine lv_aload_n hx hb dX6_readFact_33 rfl (lv_at hl 1 rfl) ?_
          refine lv_bipush (v := (-8)) hx hb dX6_readFact_34 (by decide +kernel) ?_
          refine dg_callv hS hA1 hA (va_runV (As := [.int (-8)]) (rest := []) F (c_rd_put l g D o S_55 (-8) en S0 d0 gd hk_gd (((m_55.1 209 3 _ sX_209 (dk_dq rfl)).trans (m_52.1 209 3 _ sX_209 (dk_dq rfl))).trans f_gd) y_56 f_y_56 (by omega) y_57 f_y_57 (by omega) ke ((congrFun ((m_55.2 211 _ sX_211 (dk_dq rfl)).1.trans (m_52.2 211 _ sX_211 (dk_dq rfl)).1) _).trans f_ke) (by omega) (by omega) hd0 w_55_3 I_55 H.size) (cwV 1 hts (bw_V wB_96 wB_97 wB_98 wB_24 wB_95) rfl rfl rfl (by decide +kernel) ⟨by dsimp only; omega, by dsimp only; omega⟩) (dg_preV sX_209 rfl K ST hP hS hA1 hA) rfl rfl hl.1 rfl (lv_room (Nat.le_of_ble_eq_true rfl)) dX6_readFact_36 ⟨Nat.le_of_ble_eq_true rfl, Nat.le_of_ble_eq_true rfl⟩) (fun S_66 hw_66 H locs hP hS => ?_)
          obtain ⟨I_66, m_66, w_66_0, w_66_1, w_66_2, -⟩ := hw_66
          have M_66 := dg_sm.tr M_55 m_66 (dk_dq rfl) (dk_dq rfl)
          have hz_67 : (-8 : Int32).toInt = (-8) := by decide +kernel
          replace w_66_0 : m_hid ((y_57).toInt < 1600 → q_as gd S_55 S_66 y_57 [((-8 : Int32)).toInt]) := w_66_0
          have ap_66 : q_as gd S S_66 sc ((d_lv kd vl (ru).toInt (jl + 1)).2.2 ((n0 : Int32).toNatClampNeg + 1) ++ [-8]) := (q_as.tr (ap_55.out (by omega)) rfl rfl f_y_57 (by have h9 := w_66_0.out (by omega); rw [show (-8 : Int32).toInt = -8 from by decide +kernel] at h9; exact h9))
          obtain ⟨y_68, f_y_68, w_66_1⟩ := w_66_1
          have w_66_1 : (y_57).toInt < 1600 → (y_68).toInt = (y_57).toInt + 1 := w_66_1
          have b_y_68 : 0 ≤ (y_68).toInt ∧ (y_68).toInt ≤ 1600 := dg_I.intb (lo := 0) (hi := 1600) I_66 sX_209 (by decide +kernel) f_y_68
          refine lv_iload_n hx hb dX6_readFact_39 rfl (lv_at hl 0 rfl) ?_
          have hz_69 : (1 : Int32).toInt = 1 := by decide +kernel
          have hz_70 : (1 : Int32).toInt = 1 := by decide +kernel
          have hz_71 : (1 : Int32).toInt = 1 := by decide +kernel
          have hz_72 : (1 : Int32).toInt = 1 := by decide +kernel
          refine W.widen (k := 0) (n := 0) (Nat.le_of_ble_eq_true rfl) (Nat.le_of_ble_eq_true rfl) ?_
          exact dg_iret hx hb hr hlocks (by decide +kernel) hP hS ⟨I_66, M_66, (by decide +kernel), (m_hid.mk (fun q9 => q_as.to ap_66 (by rw [d_lv_f (e := (jl + 1))]; simp [d_fact, qw_2_1, nq_y_53, qw_55_2]))), ⟨y_56, y_68, ((m_66.1 209 4 _ sX_209 (dk_dq rfl)).trans f_y_56), f_y_68, ⟨⟨by omega, by omega⟩, g_ans.y (by omega) (by show x_fact kd vl (x_lv kd vl (ru).toInt (jl + 1)).2.2 (x_lv kd vl (ru).toInt (jl + 1)).2.1 (x_lv kd vl (ru).toInt (jl + 2)).1 (n0 : Int32).toNatClampNeg = _; simp [x_fact, g_tk, qw_2_1, nq_y_53, qw_55_2])⟩⟩, w_66_2, trivial⟩ dX6_readFact_40
set_option maxHeartbeats 8000000 in
set_option maxRecDepth 100000 in
theorem cg_readBoth (jl : Nat) (dp dq : Int32) (hdp : dp < 7) (hdq : dp + 1 = dq) (hLT : lvT dq jl) (hLS : lvS dq jl) (hLF : lvF dq jl) (l : Launch) (g : Nat → ClassId) (D : va_G) (o : Nat) (S : dg_S) (en : Int32) (kd : Nat → Int32) (vl : Nat → Int32) (S0 : dg_S) (d0 : Nat) (gd : Nat) (hk_gd : rX gd) (f_gd : S.1 209 3 = .ref (o + gd)) (n0 : Int32) (f_n0 : S.1 209 4 = .int n0) (b_n0 : 0 ≤ (n0).toInt ∧ (n0).toInt ≤ 1600) (ru : Int32) (f_ru : S.1 209 6 = .int ru) (b_ru : 0 ≤ (ru).toInt ∧ (ru).toInt ≤ 2) (sc : Int32) (f_sc : S.1 209 7 = .int sc) (b_sc : 0 ≤ (sc).toInt ∧ (sc).toInt ≤ 1600) (ke : Int32) (f_ke : S.2.1 211 (en : Int32).toNatClampNeg = ke) (b_ke : 0 ≤ (ke).toInt ∧ (ke).toInt ≤ 0) (hne : (n0).toInt ≤ (en).toInt ∧ (en).toInt ≤ 1600 ∧ 0 ≤ (en).toInt) (hkd : ∀ k9 : Nat, k9 ≤ (en : Int32).toNatClampNeg → S.2.1 211 k9 = kd k9) (hvl : ∀ k9 : Nat, k9 ≤ (en : Int32).toNatClampNeg → S.2.1 213 k9 = vl k9) (hsc : (sc).toInt ≤ (n0).toInt) (hd0 : d0 ≠ gd) (G9 : G9X S0 d0 S) (I : CX o S) (sz : Nat) : Met l yX6_readBoth (bw yX6_readBoth cX6_readBoth 4 (some .boolean)) ({ frames := 8 * jl + 18, cells := 0, slots := 0, locals := 183 * jl + 417 } : Room) (dk_Pc g D (dg_w g shX o rfX S) sz [.ref (o + 209), .int dp]) (va_Qi (fun (r : Int32) S' => CX o S' ∧ dg_sm shX [(31, 0), (31, 1), (31, 4), (31, 7)] [28] S S' ∧ (0 ≤ (r).toInt ∧ (r).toInt ≤ 1) ∧ (m_hid ((r).toInt = 1 → q_as gd S S' sc (d_both kd vl (x_lv kd vl (ru).toInt (jl + 2)).2.2 (d_lv kd vl (ru).toInt (jl + 2)).2.2 (n0 : Int32).toNatClampNeg))) ∧ (∃ y9_4 y9_7 : Int32, S'.1 209 4 = .int y9_4 ∧ S'.1 209 7 = .int y9_7 ∧ (((y9_4).toInt ≤ (en).toInt ∧ ((r).toInt = 1 → ((sc).toInt + 1 ≤ (y9_7).toInt ∧ (y9_7).toInt - (sc).toInt ≤ (y9_4).toInt - (n0).toInt))) ∧ g_ans r (x_both kd vl (x_lv kd vl (ru).toInt (jl + 2)).2.2 (n0 : Int32).toNatClampNeg) (y9_4 : Int32).toNatClampNeg)) ∧ G9X S0 d0 S' ∧ True) (dg_B g D shX o rfX) (dg_A o shX.length sz)) 0 0 (dg_A o shX.length sz) := by
  refine dg_met (cc := cX6_readBoth) (maxL := 4) (ret := (some .boolean)) (dk_dq rfl) rfl (Nat.le_of_ble_eq_true rfl) ?_
  intro p e s m args below meth c A hAe harg hx hb hr hml hts hown hlocks hin hP K hS hA1 hA ST hsz ls hl
  rw [← hAe]
  have F : CallFix p m c cX6_readBoth 4 s args (bw yX6_readBoth cX6_readBoth 4 (some .boolean)) RX6 := ⟨hx, hb, hml, hown, hts⟩
  have hl : lv_has ls 4 [(0, .ref (o + 209)), (1, .int dp)] := hl
  have M_0 : dg_sm shX [(31, 0), (31, 1), (31, 4), (31, 7)] [28] S S := dg_sm.rf
  refine lv_aload_n hx hb dX6_readBoth_0 rfl (lv_at hl 0 rfl) ?_
  refine lv_iload_n hx hb dX6_readBoth_1 rfl (lv_at hl 1 rfl) ?_
  refine dg_calli hS hA1 hA (va_runV (As := [.int dp]) (rest := []) F (cg_readFact jl dp dq hdp hdq hLT hLS hLF l g D o S en kd vl S0 d0 gd hk_gd f_gd n0 f_n0 (by omega) ru f_ru (by omega) sc f_sc (by omega) ke f_ke (by omega) (by omega) hkd hvl (by omega) hd0 G9 I s.heap.size) (cwV 1 hts (bw_V wB_140 wB_141 wB_142 wB_24 wB_139) rfl rfl rfl (by decide +kernel) ⟨by dsimp only; omega, by dsimp only; omega⟩) (dg_preV sX_209 rfl K ST hP hS hA1 hA) rfl rfl hl.1 rfl (lv_room (Nat.le_of_ble_eq_true rfl)) dX6_readBoth_2 ⟨Nat.le_of_ble_eq_true rfl, Nat.le_of_ble_eq_true rfl⟩) (fun x_1 S_2 hw_2 H locs hP hS => ?_)
  obtain ⟨I_2, m_2, w_2_0, w_2_1, w_2_2, w_2_3, -⟩ := hw_2
  have M_2 := dg_sm.tr M_0 m_2 (dk_dq rfl) (dk_dq rfl)
  have w_2_0 : 0 ≤ (x_1).toInt ∧ (x_1).toInt ≤ 1 := w_2_0
  replace w_2_1 : m_hid ((x_1).toInt = 1 → q_as gd S S_2 sc ((d_lv kd vl (ru).toInt (jl + 2)).2.2 (n0 : Int32).toNatClampNeg)) := w_2_1
  have ap_2 : m_hid ((x_1).toInt = 1 → q_as gd S S_2 sc ((d_lv kd vl (ru).toInt (jl + 2)).2.2 (n0 : Int32).toNatClampNeg)) := m_hid.mk (fun q9 => (by have h9 := w_2_1.out q9; exact h9))
  obtain ⟨y_3, y_4, f_y_3, f_y_4, w_2_2⟩ := w_2_2
  have w_2_2 : ((y_3).toInt ≤ (en).toInt ∧ ((x_1).toInt = 1 → ((sc).toInt + 1 ≤ (y_4).toInt ∧ (y_4).toInt - (sc).toInt ≤ (y_3).toInt - (n0).toInt))) ∧ g_ans x_1 ((x_lv kd vl (ru).toInt (jl + 2)).2.2 (n0 : Int32).toNatClampNeg) (y_3 : Int32).toNatClampNeg := w_2_2
  have b_y_3 : 0 ≤ (y_3).toInt ∧ (y_3).toInt ≤ 1600 := dg_I.intb (lo := 0) (hi := 1600) I_2 sX_209 (by decide +kernel) f_y_3
  have b_y_4 : 0 ≤ (y_4).toInt ∧ (y_4).toInt ≤ 1600 := dg_I.intb (lo := 0) (hi := 1600) I_2 sX_209 (by decide +kernel) f_y_4
  refine lv_istore_n (lv' := [(2, .int x_1), (0, .ref (o + 209)), (1, .int dp)]) hx hb dX6_readBoth_5 rfl hl (dk_dq rfl) rfl (fun ls hl => ?_)
  refine lv_iconst (v := 0) hx hb dX6_readBoth_6 (by decide +kernel) ?_
  refine lv_istore_n (lv' := [(3, .int 0), (2, .int x_1), (0, .ref (o + 209)), (1, .int dp)]) hx hb dX6_readBoth_7 rfl hl (dk_dq rfl) rfl (fun ls hl => ?_)
  have L_106 : ∀ (n : Nat) (x_101 : Int32) (x_102 : Int32) (x_103 : Int32) (x_104 : Int32), (0 ≤ (x_101).toInt ∧ (x_101).toInt ≤ 1600) → (0 ≤ (x_102).toInt ∧ (x_102).toInt ≤ 1) → (0 ≤ (x_103).toInt ∧ (x_103).toInt ≤ 1600) → (0 ≤ (x_104).toInt ∧ (x_104).toInt ≤ 1600) → ((x_103).toInt ≤ (en).toInt) → ((1601 - (x_101).toInt).toNat < n) → ∀ S_105 : dg_S, CX o S_105 → dg_sm shX [(31, 0), (31, 1), (31, 4), (31, 7)] [28] S S_105 → S_105.1 209 4 = .int x_103 → S_105.1 209 7 = .int x_104 → G9X S0 d0 S_105 → (g_it x_102 (x_both kd vl (x_lv kd vl (ru).toInt (jl + 2)).2.2 (n0 : Int32).toNatClampNeg) (g_o kd vl 22) ((x_lv kd vl (ru).toInt (jl + 2)).2.2) (1600 - (x_101 : Int32).toInt).toNat (x_103 : Int32).toNatClampNeg) → (((x_102).toInt = 1 → ((sc).toInt + 1 ≤ (x_104).toInt ∧ (x_104).toInt - (sc).toInt ≤ (x_103).toInt - (n0).toInt))) → (q_it x_102 gd S S_105 sc (d_both kd vl (x_lv kd vl (ru).toInt (jl + 2)).2.2 (d_lv kd vl (ru).toInt (jl + 2)).2.2 (n0 : Int32).toNatClampNeg) (g_o kd vl 22) ((x_lv kd vl (ru).toInt (jl + 2)).2.2) (d_lv kd vl (ru).toInt (jl + 2)).2.2 (fun _ => -20) (1600 - (x_101 : Int32).toInt).toNat (x_103 : Int32).toNatClampNeg) → ∀ (H : Heap) (locs : List Loc), va_P D vwCl (dg_w g shX o rfX S_105) H → va_S A s.heap H locs → ∀ ls : Array Slot, lv_has ls 4 [(3, .int x_101), (2, .int x_102), (0, .ref (o + 209)), (1, .int dp)] → W p l e ({ frames := 8 * jl + 18, cells := 0, slots := 0, locals := 183 * jl + 417 } : Room) s m args below meth c H locs 0 0 (MQ below (va_Qi (fun (r : Int32) S' => CX o S' ∧ dg_sm shX [(31, 0), (31, 1), (31, 4), (31, 7)] [28] S S' ∧ (0 ≤ (r).toInt ∧ (r).toInt ≤ 1) ∧ (m_hid ((r).toInt = 1 → q_as gd S S' sc (d_both kd vl (x_lv kd vl (ru).toInt (jl + 2)).2.2 (d_lv kd vl (ru).toInt (jl + 2)).2.2 (n0 : Int32).toNatClampNeg))) ∧ (∃ y9_4 y9_7 : Int32, S'.1 209 4 = .int y9_4 ∧ S'.1 209 7 = .int y9_7 ∧ (((y9_4).toInt ≤ (en).toInt ∧ ((r).toInt = 1 → ((sc).toInt + 1 ≤ (y9_7).toInt ∧ (y9_7).toInt - (sc).toInt ≤ (y9_4).toInt - (n0).toInt))) ∧ g_ans r (x_both kd vl (x_lv kd vl (ru).toInt (jl + 2)).2.2 (n0 : Int32).toNatClampNeg) (y9_4 : Int32).toNatClampNeg)) ∧ G9X S0 d0 S' ∧ True) (dg_B g D shX o rfX) A) args s 0 0 A) (F0 m 8 ls []) := by
    as_aux_lemma =>
      intro n
      induction n with
      | zero =>
        intro x_101 x_102 x_103 x_104 b_x_101 b_x_102 b_x_103 b_x_104 rel_0 hmu S_105 I_105 M_105 ff_105_4_209 ff_105_7_209 G9_105 srel_105_0 srel_105_1 srel_105_2 H locs hP hS ls hl
        omega
      | succ n ih =>
        as_aux_lemma =>
          intro x_101 x_102 x_103 x_104 b_x_101 b_x_102 b_x_103 b_x_104 rel_0 hmu S_105 I_105 M_105 ff_105_4_209 ff_105_7_209 G9_105 srel_105_0 srel_105_1 srel_105_2 H locs hP hS ls hl
          refine lv_iload_n hx hb dX6_readBoth_8 rfl (lv_at hl 0 rfl) ?_
          refine lv_sipush (v := 1600) hx hb dX6_readBoth_9 (by decide +kernel) ?_
          refine lv_icmp_ge (tgt := 50) hx hb dX6_readBoth_12 (dk_dq rfl) (fun c_107 => ?_) (fun c_107 => ?_)
          · have jc_107 := dk_gec (k := 1600) (by decide +kernel) c_107
            refine lv_iload_n hx hb dX6_readBoth_50 rfl (lv_at hl 1 rfl) ?_
            refine W.widen (k := 0) (n := 0) (Nat.le_of_ble_eq_true rfl) (Nat.le_of_ble_eq_true rfl) ?_
            exact dg_iret hx hb hr hlocks (dk_znar2 (by omega)) hP hS ⟨I_105, M_105, (by omega), (m_hid.mk (q_it.stop srel_105_2 (fun _ => Or.inl (by omega)))), ⟨x_103, x_104, ff_105_4_209, ff_105_7_209, ⟨⟨by omega, by omega⟩, g_it.stop srel_105_0 (fun _ => Or.inl (by omega))⟩⟩, G9_105, trivial⟩ dX6_readBoth_51
          · as_aux_lemma =>
              have jc_107 := dk_ngec (k := 1600) (by decide +kernel) c_107
              refine lv_iload_n hx hb dX6_readBoth_15 rfl (lv_at hl 1 rfl) ?_
              refine lv_if_eq (tgt := 50) hx hb dX6_readBoth_16 (dk_dq rfl) (fun c_108 => ?_) (fun c_108 => ?_)
              · have jc_108 := dk_eqc (k := 0) (by decide +kernel) c_108
                refine lv_iload_n hx hb dX6_readBoth_50 rfl (lv_at hl 1 rfl) ?_
                refine W.widen (k := 0) (n := 0) (Nat.le_of_ble_eq_true rfl) (Nat.le_of_ble_eq_true rfl) ?_
                exact dg_iret hx hb hr hlocks (dk_znar2 (by omega)) hP hS ⟨I_105, M_105, (by omega), (m_hid.mk (fun q9 => absurd q9 (by omega))), ⟨x_103, x_104, ff_105_4_209, ff_105_7_209, ⟨⟨by omega, by omega⟩, g_it.stop srel_105_0 (fun h9 => absurd h9 (by omega))⟩⟩, G9_105, trivial⟩ dX6_readBoth_51
              · as_aux_lemma =>
                  have jc_108 := dk_neqc (k := 0) (by decide +kernel) c_108
                  refine lv_aload_n hx hb dX6_readBoth_19 rfl (lv_at hl 2 rfl) ?_
                  refine lv_bipush (v := 22) hx hb dX6_readBoth_20 (by decide +kernel) ?_
                  refine dg_calli hS hA1 hA (va_runV (As := [.int 22]) (rest := []) F (c_rd_isOwn l g D o S_105 22 en kd vl x_103 ff_105_4_209 (by omega) ke ((congrFun (M_105.2 211 _ sX_211 (dk_dq rfl)).1 _).trans f_ke) (by omega) (by omega) (fun k9 h9 => (congrFun (M_105.2 211 _ sX_211 (dk_dq rfl)).1 k9).trans (hkd k9 h9)) (fun k9 h9 => (congrFun (M_105.2 213 _ sX_213 (dk_dq rfl)).1 k9).trans (hvl k9 h9)) I_105 H.size) (cwV 1 hts (bw_V wB_21 wB_22 wB_23 wB_24 wB_20) rfl rfl rfl (by decide +kernel) ⟨by dsimp only; omega, by dsimp only; omega⟩) (dg_preV sX_209 rfl K ST hP hS hA1 hA) rfl rfl hl.1 rfl (lv_room (Nat.le_of_ble_eq_true rfl)) dX6_readBoth_22 ⟨Nat.le_of_ble_eq_true rfl, Nat.le_of_ble_eq_true rfl⟩) (fun x_109 S_110 hw_110 H locs hP hS => ?_)
                  rw [hw_110.1] at hP
                  obtain ⟨hq_110, w_110_0, w_110_1, -⟩ := hw_110
                  have hz_111 : (22 : Int32).toInt = 22 := by decide +kernel
                  have w_110_0 : 0 ≤ (x_109).toInt ∧ (x_109).toInt ≤ 1 := w_110_0
                  have w_110_1 : (x_109).toInt = 1 ↔ g_o kd vl ((22 : Int32)).toInt (x_103 : Int32).toNatClampNeg = true := w_110_1
                  refine lv_if_eq (tgt := 50) hx hb dX6_readBoth_25 (dk_dq rfl) (fun c_112 => ?_) (fun c_112 => ?_)
                  · have jc_112 := dk_eqc (k := 0) (by decide +kernel) c_112
                    have qw_110_1 : g_o kd vl 22 (x_103 : Int32).toNatClampNeg = false := by have h9 := g_iff_f w_110_1 (by omega); rw [show (22 : Int32).toInt = 22 from by decide +kernel] at h9; exact h9
                    refine lv_iload_n hx hb dX6_readBoth_50 rfl (lv_at hl 1 rfl) ?_
                    refine W.widen (k := 0) (n := 0) (Nat.le_of_ble_eq_true rfl) (Nat.le_of_ble_eq_true rfl) ?_
                    exact dg_iret hx hb hr hlocks (dk_znar2 (by omega)) hP hS ⟨I_105, M_105, (by omega), (m_hid.mk (q_it.stop srel_105_2 (fun _ => Or.inr qw_110_1))), ⟨x_103, x_104, ff_105_4_209, ff_105_7_209, ⟨⟨by omega, by omega⟩, g_it.stop srel_105_0 (fun _ => Or.inr qw_110_1)⟩⟩, G9_105, trivial⟩ dX6_readBoth_51
                  · as_aux_lemma =>
                      have jc_112 := dk_neqc (k := 0) (by decide +kernel) c_112
                      have qw_110_1 : g_o kd vl 22 (x_103 : Int32).toNatClampNeg = true := by have h9 := w_110_1.mp (by omega); rw [show (22 : Int32).toInt = 22 from by decide +kernel] at h9; exact h9
                      refine lv_aload_n hx hb dX6_readBoth_28 rfl (lv_at hl 2 rfl) ?_
                      refine dg_callv hS hA1 hA (va_runV (As := []) (rest := []) F (c_rd_pass l g D o S_105 en kd vl x_103 ff_105_4_209 (by omega) ke ((congrFun (M_105.2 211 _ sX_211 (dk_dq rfl)).1 _).trans f_ke) (by omega) (by omega) (fun k9 h9 => (congrFun (M_105.2 211 _ sX_211 (dk_dq rfl)).1 k9).trans (hkd k9 h9)) (fun k9 h9 => (congrFun (M_105.2 213 _ sX_213 (dk_dq rfl)).1 k9).trans (hvl k9 h9)) I_105 H.size) (cwV 0 hts (bw_V wB_26 wB_27 wB_28 wB_24 wB_25) rfl rfl rfl (by decide +kernel) ⟨by dsimp only; omega, by dsimp only; omega⟩) (dg_preV sX_209 rfl K ST hP hS hA1 hA) rfl rfl hl.1 rfl (lv_room (Nat.le_of_ble_eq_true rfl)) dX6_readBoth_29 ⟨Nat.le_of_ble_eq_true rfl, Nat.le_of_ble_eq_true rfl⟩) (fun S_113 hw_113 H locs hP hS => ?_)
                      obtain ⟨I_113, m_113, w_113_0, -⟩ := hw_113
                      have M_113 := dg_sm.tr M_105 m_113 (dk_dq rfl) (dk_dq rfl)
                      obtain ⟨y_114, f_y_114, w_113_0⟩ := w_113_0
                      have w_113_0 : (y_114).toInt ≤ (en).toInt ∧ ((kd (x_103 : Int32).toNatClampNeg).toInt ≠ 0 → (y_114 : Int32).toNatClampNeg = (x_103 : Int32).toNatClampNeg + 1) := w_113_0
                      have b_y_114 : 0 ≤ (y_114).toInt ∧ (y_114).toInt ≤ 1600 := dg_I.intb (lo := 0) (hi := 1600) I_113 sX_209 (by decide +kernel) f_y_114
                      have nq_y_114 : (y_114 : Int32).toNatClampNeg = (x_103 : Int32).toNatClampNeg + 1 := by have h9 := w_113_0.2 (g_o_ne qw_110_1); omega
                      have ni_y_114 : (y_114).toInt = (x_103).toInt + 1 := by have h8 := dk_clN y_114; have h9 := dk_clN x_103; omega
                      refine lv_aload_n hx hb dX6_readBoth_32 rfl (lv_at hl 2 rfl) ?_
                      refine lv_iload_n hx hb dX6_readBoth_33 rfl (lv_at hl 3 rfl) ?_
                      refine dg_calli hS hA1 hA (va_runV (As := [.int dp]) (rest := []) F (cg_readFact jl dp dq hdp hdq hLT hLS hLF l g D o S_113 en kd vl S0 d0 gd hk_gd (((m_113.1 209 3 _ sX_209 (dk_dq rfl)).trans (M_105.1 209 3 _ sX_209 (dk_dq rfl))).trans f_gd) y_114 f_y_114 (by omega) ru (((m_113.1 209 6 _ sX_209 (dk_dq rfl)).trans (M_105.1 209 6 _ sX_209 (dk_dq rfl))).trans f_ru) (by omega) x_104 ((m_113.1 209 7 _ sX_209 (dk_dq rfl)).trans ff_105_7_209) (by omega) ke ((congrFun ((m_113.2 211 _ sX_211 (dk_dq rfl)).1.trans (M_105.2 211 _ sX_211 (dk_dq rfl)).1) _).trans f_ke) (by omega) (by omega) (fun k9 h9 => (congrFun ((m_113.2 211 _ sX_211 (dk_dq rfl)).1.trans (M_105.2 211 _ sX_211 (dk_dq rfl)).1) k9).trans (hkd k9 h9)) (fun k9 h9 => (congrFun ((m_113.2 213 _ sX_213 (dk_dq rfl)).1.trans (M_105.2 213 _ sX_213 (dk_dq rfl)).1) k9).trans (hvl k9 h9)) (by omega) hd0 (G9X.keep G9_105 m_113 (dk_dq rfl)) I_113 H.size) (cwV 1 hts (bw_V wB_140 wB_141 wB_142 wB_24 wB_139) rfl rfl rfl (by decide +kernel) ⟨by dsimp only; omega, by dsimp only; omega⟩) (dg_preV sX_209 rfl K ST hP hS hA1 hA) rfl rfl hl.1 rfl (lv_room (Nat.le_of_ble_eq_true rfl)) dX6_readBoth_34 ⟨Nat.le_of_ble_eq_true rfl, Nat.le_of_ble_eq_true rfl⟩) (fun x_115 S_116 hw_116 H locs hP hS => ?_)
                      obtain ⟨I_116, m_116, w_116_0, w_116_1, w_116_2, w_116_3, -⟩ := hw_116
                      have M_116 := dg_sm.tr M_113 m_116 (dk_dq rfl) (dk_dq rfl)
                      have w_116_0 : 0 ≤ (x_115).toInt ∧ (x_115).toInt ≤ 1 := w_116_0
                      replace w_116_1 : m_hid ((x_115).toInt = 1 → q_as gd S_113 S_116 x_104 ((d_lv kd vl (ru).toInt (jl + 2)).2.2 (y_114 : Int32).toNatClampNeg)) := w_116_1
                      have ap_116 : m_hid ((x_115).toInt = 1 → q_as gd S_105 S_116 x_104 ((d_lv kd vl (ru).toInt (jl + 2)).2.2 ((x_103 : Int32).toNatClampNeg + 1))) := m_hid.mk (fun q9 => (q_as.fst (m_113.2 (gd + 9) _ (rX_9 gd hk_gd) (dk_dq rfl)).1 (by have h9 := w_116_1.out q9; rw [nq_y_114] at h9; exact h9)))
                      obtain ⟨y_117, y_118, f_y_117, f_y_118, w_116_2⟩ := w_116_2
                      have w_116_2 : ((y_117).toInt ≤ (en).toInt ∧ ((x_115).toInt = 1 → ((x_104).toInt + 1 ≤ (y_118).toInt ∧ (y_118).toInt - (x_104).toInt ≤ (y_117).toInt - (y_114).toInt))) ∧ g_ans x_115 ((x_lv kd vl (ru).toInt (jl + 2)).2.2 (y_114 : Int32).toNatClampNeg) (y_117 : Int32).toNatClampNeg := w_116_2
                      have b_y_117 : 0 ≤ (y_117).toInt ∧ (y_117).toInt ≤ 1600 := dg_I.intb (lo := 0) (hi := 1600) I_116 sX_209 (by decide +kernel) f_y_117
                      have b_y_118 : 0 ≤ (y_118).toInt ∧ (y_118).toInt ≤ 1600 := dg_I.intb (lo := 0) (hi := 1600) I_116 sX_209 (by decide +kernel) f_y_118
                      refine lv_istore_n (lv' := [(2, .int x_115), (3, .int x_101), (0, .ref (o + 209)), (1, .int dp)]) hx hb dX6_readBoth_37 rfl hl (dk_dq rfl) rfl (fun ls hl => ?_)
                      refine lv_aload_n hx hb dX6_readBoth_38 rfl (lv_at hl 2 rfl) ?_
                      refine lv_bipush (v := (-20)) hx hb dX6_readBoth_39 (by decide +kernel) ?_
                      refine dg_callv hS hA1 hA (va_runV (As := [.int (-20)]) (rest := []) F (c_rd_put l g D o S_116 (-20) en S0 d0 gd hk_gd (((m_116.1 209 3 _ sX_209 (dk_dq rfl)).trans ((m_113.1 209 3 _ sX_209 (dk_dq rfl)).trans (M_105.1 209 3 _ sX_209 (dk_dq rfl)))).trans f_gd) y_117 f_y_117 (by omega) y_118 f_y_118 (by omega) ke ((congrFun ((m_116.2 211 _ sX_211 (dk_dq rfl)).1.trans ((m_113.2 211 _ sX_211 (dk_dq rfl)).1.trans (M_105.2 211 _ sX_211 (dk_dq rfl)).1)) _).trans f_ke) (by omega) (by omega) hd0 w_116_3 I_116 H.size) (cwV 1 hts (bw_V wB_96 wB_97 wB_98 wB_24 wB_95) rfl rfl rfl (by decide +kernel) ⟨by dsimp only; omega, by dsimp only; omega⟩) (dg_preV sX_209 rfl K ST hP hS hA1 hA) rfl rfl hl.1 rfl (lv_room (Nat.le_of_ble_eq_true rfl)) dX6_readBoth_41 ⟨Nat.le_of_ble_eq_true rfl, Nat.le_of_ble_eq_true rfl⟩) (fun S_119 hw_119 H locs hP hS => ?_)
                      obtain ⟨I_119, m_119, w_119_0, w_119_1, w_119_2, -⟩ := hw_119
                      have M_119 := dg_sm.tr M_116 m_119 (dk_dq rfl) (dk_dq rfl)
                      have hz_120 : (-20 : Int32).toInt = (-20) := by decide +kernel
                      replace w_119_0 : m_hid ((y_118).toInt < 1600 → q_as gd S_116 S_119 y_118 [((-20 : Int32)).toInt]) := w_119_0
                      have ap_119 : m_hid ((x_115).toInt = 1 → q_as gd S_105 S_119 x_104 ((d_lv kd vl (ru).toInt (jl + 2)).2.2 ((x_103 : Int32).toNatClampNeg + 1) ++ [-20])) := m_hid.mk (fun q9 => (q_as.tr (ap_116.out q9) rfl rfl f_y_118 (by have h9 := w_119_0.out (by omega); rw [show (-20 : Int32).toInt = -20 from by decide +kernel] at h9; exact h9)))
                      obtain ⟨y_121, f_y_121, w_119_1⟩ := w_119_1
                      have w_119_1 : (y_118).toInt < 1600 → (y_121).toInt = (y_118).toInt + 1 := w_119_1
                      have b_y_121 : 0 ≤ (y_121).toInt ∧ (y_121).toInt ≤ 1600 := dg_I.intb (lo := 0) (hi := 1600) I_119 sX_209 (by decide +kernel) f_y_121
                      obtain ⟨x_122, ex_122⟩ : ∃ z, z = x_101 + 1 := ⟨_, rfl⟩
                      have jx_122 : (x_122).toInt = (x_101).toInt + 1 := by rw [ex_122]; exact dk_addT2 rfl (by decide +kernel) (by omega)
                      refine lv_iinc (v := x_122) (lv' := [(3, .int x_122), (2, .int x_115), (0, .ref (o + 209)), (1, .int dp)]) hx hb dX6_readBoth_44 hl (k := 1) rfl (by rw [ex_122]; rfl) (dk_dq rfl) rfl (fun ls hl => ?_)
                      refine lv_goto (tgt := 8) hx hb dX6_readBoth_47 (dk_dq rfl) ?_
                      exact ih x_122 x_115 y_117 y_121 (by omega) (by omega) (by omega) (by omega) (by omega) (by first | exact mu_lt hmu (by omega) (by omega) | omega) S_119 I_119 M_119 ((m_119.1 209 4 _ sX_209 (dk_dq rfl)).trans f_y_117) f_y_121 w_119_2 (g_it.step srel_105_0 (by omega) (by omega) qw_110_1 (by have h9 := w_116_2.2; rw [nq_y_114] at h9; exact h9)) (by omega) (q_it.step srel_105_2 (by omega) (by omega) qw_110_1 (by have h9 := w_116_2.2; rw [nq_y_114] at h9; exact h9) ff_105_7_209 ap_119.out rfl) _ _ hP hS _ (lv_sub hl [0, 1, 2, 3] rfl)
  have hz_123 : (0 : Int32).toInt = 0 := by decide +kernel
  have hz_124 : (0 : Int32).toInt = 0 := by decide +kernel
  have hz_125 : (0 : Int32).toInt = 0 := by decide +kernel
  exact L_106 ((1601 - ((0 : Int32)).toInt).toNat + 1) 0 x_1 y_3 y_4 (by decide +kernel) (by omega) (by omega) (by omega) (by omega) (by first | exact mu_lt hmu (by omega) (by omega) | omega) S_2 I_2 M_2 f_y_3 f_y_4 w_2_3 (by rw [show (1600 - (0 : Int32).toInt).toNat = 1600 from by decide +kernel]; exact g_it.start w_2_2.2) (by omega) (by rw [show (1600 - (0 : Int32).toInt).toNat = 1600 from by decide +kernel]; exact q_it.start d_both_e w_2_2.2 ap_2.out) _ _ hP hS _ (lv_sub hl [0, 1, 2, 3] rfl)
set_option maxHeartbeats 8000000 in
set_option maxRecDepth 100000 in
theorem cg_readTest (jl : Nat) (dp dq : Int32) (hdp : dp < 7) (hdq : dp + 1 = dq) (hLT : lvT dq jl) (hLS : lvS dq jl) (hLF : lvF dq jl) (l : Launch) (g : Nat → ClassId) (D : va_G) (o : Nat) (S : dg_S) (en : Int32) (kd : Nat → Int32) (vl : Nat → Int32) (S0 : dg_S) (d0 : Nat) (gd : Nat) (hk_gd : rX gd) (f_gd : S.1 209 3 = .ref (o + gd)) (n0 : Int32) (f_n0 : S.1 209 4 = .int n0) (b_n0 : 0 ≤ (n0).toInt ∧ (n0).toInt ≤ 1600) (ru : Int32) (f_ru : S.1 209 6 = .int ru) (b_ru : 0 ≤ (ru).toInt ∧ (ru).toInt ≤ 2) (sc : Int32) (f_sc : S.1 209 7 = .int sc) (b_sc : 0 ≤ (sc).toInt ∧ (sc).toInt ≤ 1600) (ke : Int32) (f_ke : S.2.1 211 (en : Int32).toNatClampNeg = ke) (b_ke : 0 ≤ (ke).toInt ∧ (ke).toInt ≤ 0) (hne : (n0).toInt ≤ (en).toInt ∧ (en).toInt ≤ 1600 ∧ 0 ≤ (en).toInt) (hkd : ∀ k9 : Nat, k9 ≤ (en : Int32).toNatClampNeg → S.2.1 211 k9 = kd k9) (hvl : ∀ k9 : Nat, k9 ≤ (en : Int32).toNatClampNeg → S.2.1 213 k9 = vl k9) (hsc : (sc).toInt ≤ (n0).toInt) (hd0 : d0 ≠ gd) (G9 : G9X S0 d0 S) (I : CX o S) (sz : Nat) : Met l yX6_readTest (bw yX6_readTest cX6_readTest 4 (some .boolean)) ({ frames := 8 * jl + 19, cells := 0, slots := 0, locals := 183 * jl + 440 } : Room) (dk_Pc g D (dg_w g shX o rfX S) sz [.ref (o + 209), .int dp]) (va_Qi (fun (r : Int32) S' => CX o S' ∧ dg_sm shX [(31, 0), (31, 1), (31, 4), (31, 7)] [28] S S' ∧ (0 ≤ (r).toInt ∧ (r).toInt ≤ 1) ∧ (m_hid ((r).toInt = 1 → q_as gd S S' sc ((d_lv kd vl (ru).toInt (jl + 2)).2.1 (n0 : Int32).toNatClampNeg))) ∧ (∃ y9_4 y9_7 : Int32, S'.1 209 4 = .int y9_4 ∧ S'.1 209 7 = .int y9_7 ∧ (((y9_4).toInt ≤ (en).toInt ∧ ((r).toInt = 1 → ((sc).toInt + 1 ≤ (y9_7).toInt ∧ (y9_7).toInt - (sc).toInt ≤ (y9_4).toInt - (n0).toInt))) ∧ g_ans r ((x_lv kd vl (ru).toInt (jl + 2)).2.1 (n0 : Int32).toNatClampNeg) (y9_4 : Int32).toNatClampNeg)) ∧ G9X S0 d0 S' ∧ True) (dg_B g D shX o rfX) (dg_A o shX.length sz)) 0 0 (dg_A o shX.length sz) := by
  refine dg_met (cc := cX6_readTest) (maxL := 4) (ret := (some .boolean)) (dk_dq rfl) rfl (Nat.le_of_ble_eq_true rfl) ?_
  intro p e s m args below meth c A hAe harg hx hb hr hml hts hown hlocks hin hP K hS hA1 hA ST hsz ls hl
  rw [← hAe]
  have F : CallFix p m c cX6_readTest 4 s args (bw yX6_readTest cX6_readTest 4 (some .boolean)) RX6 := ⟨hx, hb, hml, hown, hts⟩
  have hl : lv_has ls 4 [(0, .ref (o + 209)), (1, .int dp)] := hl
  have M_0 : dg_sm shX [(31, 0), (31, 1), (31, 4), (31, 7)] [28] S S := dg_sm.rf
  refine lv_aload_n hx hb dX6_readTest_0 rfl (lv_at hl 0 rfl) ?_
  refine lv_iload_n hx hb dX6_readTest_1 rfl (lv_at hl 1 rfl) ?_
  refine dg_calli hS hA1 hA (va_runV (As := [.int dp]) (rest := []) F (cg_readBoth jl dp dq hdp hdq hLT hLS hLF l g D o S en kd vl S0 d0 gd hk_gd f_gd n0 f_n0 (by omega) ru f_ru (by omega) sc f_sc (by omega) ke f_ke (by omega) (by omega) hkd hvl (by omega) hd0 G9 I s.heap.size) (cwV 1 hts (bw_V wB_144 wB_145 wB_146 wB_24 wB_143) rfl rfl rfl (by decide +kernel) ⟨by dsimp only; omega, by dsimp only; omega⟩) (dg_preV sX_209 rfl K ST hP hS hA1 hA) rfl rfl hl.1 rfl (lv_room (Nat.le_of_ble_eq_true rfl)) dX6_readTest_2 ⟨Nat.le_of_ble_eq_true rfl, Nat.le_of_ble_eq_true rfl⟩) (fun x_1 S_2 hw_2 H locs hP hS => ?_)
  obtain ⟨I_2, m_2, w_2_0, w_2_1, w_2_2, w_2_3, -⟩ := hw_2
  have M_2 := dg_sm.tr M_0 m_2 (dk_dq rfl) (dk_dq rfl)
  have w_2_0 : 0 ≤ (x_1).toInt ∧ (x_1).toInt ≤ 1 := w_2_0
  replace w_2_1 : m_hid ((x_1).toInt = 1 → q_as gd S S_2 sc (d_both kd vl (x_lv kd vl (ru).toInt (jl + 2)).2.2 (d_lv kd vl (ru).toInt (jl + 2)).2.2 (n0 : Int32).toNatClampNeg)) := w_2_1
  have ap_2 : m_hid ((x_1).toInt = 1 → q_as gd S S_2 sc (d_both kd vl (x_lv kd vl (ru).toInt (jl + 2)).2.2 (d_lv kd vl (ru).toInt (jl + 2)).2.2 (n0 : Int32).toNatClampNeg)) := m_hid.mk (fun q9 => (by have h9 := w_2_1.out q9; exact h9))
  obtain ⟨y_3, y_4, f_y_3, f_y_4, w_2_2⟩ := w_2_2
  have w_2_2 : ((y_3).toInt ≤ (en).toInt ∧ ((x_1).toInt = 1 → ((sc).toInt + 1 ≤ (y_4).toInt ∧ (y_4).toInt - (sc).toInt ≤ (y_3).toInt - (n0).toInt))) ∧ g_ans x_1 (x_both kd vl (x_lv kd vl (ru).toInt (jl + 2)).2.2 (n0 : Int32).toNatClampNeg) (y_3 : Int32).toNatClampNeg := w_2_2
  have b_y_3 : 0 ≤ (y_3).toInt ∧ (y_3).toInt ≤ 1600 := dg_I.intb (lo := 0) (hi := 1600) I_2 sX_209 (by decide +kernel) f_y_3
  have b_y_4 : 0 ≤ (y_4).toInt ∧ (y_4).toInt ≤ 1600 := dg_I.intb (lo := 0) (hi := 1600) I_2 sX_209 (by decide +kernel) f_y_4
  refine lv_istore_n (lv' := [(2, .int x_1), (0, .ref (o + 209)), (1, .int dp)]) hx hb dX6_readTest_5 rfl hl (dk_dq rfl) rfl (fun ls hl => ?_)
  refine lv_iconst (v := 0) hx hb dX6_readTest_6 (by decide +kernel) ?_
  refine lv_istore_n (lv' := [(3, .int 0), (2, .int x_1), (0, .ref (o + 209)), (1, .int dp)]) hx hb dX6_readTest_7 rfl hl (dk_dq rfl) rfl (fun ls hl => ?_)
  have L_106 : ∀ (n : Nat) (x_101 : Int32) (x_102 : Int32) (x_103 : Int32) (x_104 : Int32), (0 ≤ (x_101).toInt ∧ (x_101).toInt ≤ 1600) → (0 ≤ (x_102).toInt ∧ (x_102).toInt ≤ 1) → (0 ≤ (x_103).toInt ∧ (x_103).toInt ≤ 1600) → (0 ≤ (x_104).toInt ∧ (x_104).toInt ≤ 1600) → ((x_103).toInt ≤ (en).toInt) → ((1601 - (x_101).toInt).toNat < n) → ∀ S_105 : dg_S, CX o S_105 → dg_sm shX [(31, 0), (31, 1), (31, 4), (31, 7)] [28] S S_105 → S_105.1 209 4 = .int x_103 → S_105.1 209 7 = .int x_104 → G9X S0 d0 S_105 → (g_it x_102 (x_test kd vl (x_lv kd vl (ru).toInt (jl + 2)).2.2 (n0 : Int32).toNatClampNeg) (g_o kd vl 21) (x_both kd vl (x_lv kd vl (ru).toInt (jl + 2)).2.2) (1600 - (x_101 : Int32).toInt).toNat (x_103 : Int32).toNatClampNeg) → (((x_102).toInt = 1 → ((sc).toInt + 1 ≤ (x_104).toInt ∧ (x_104).toInt - (sc).toInt ≤ (x_103).toInt - (n0).toInt))) → (q_it x_102 gd S S_105 sc (d_test kd vl (x_lv kd vl (ru).toInt (jl + 2)).2.2 (d_lv kd vl (ru).toInt (jl + 2)).2.2 (n0 : Int32).toNatClampNeg) (g_o kd vl 21) (x_both kd vl (x_lv kd vl (ru).toInt (jl + 2)).2.2) (d_both kd vl (x_lv kd vl (ru).toInt (jl + 2)).2.2 (d_lv kd vl (ru).toInt (jl + 2)).2.2) (fun _ => -21) (1600 - (x_101 : Int32).toInt).toNat (x_103 : Int32).toNatClampNeg) → ∀ (H : Heap) (locs : List Loc), va_P D vwCl (dg_w g shX o rfX S_105) H → va_S A s.heap H locs → ∀ ls : Array Slot, lv_has ls 4 [(3, .int x_101), (2, .int x_102), (0, .ref (o + 209)), (1, .int dp)] → W p l e ({ frames := 8 * jl + 19, cells := 0, slots := 0, locals := 183 * jl + 440 } : Room) s m args below meth c H locs 0 0 (MQ below (va_Qi (fun (r : Int32) S' => CX o S' ∧ dg_sm shX [(31, 0), (31, 1), (31, 4), (31, 7)] [28] S S' ∧ (0 ≤ (r).toInt ∧ (r).toInt ≤ 1) ∧ (m_hid ((r).toInt = 1 → q_as gd S S' sc ((d_lv kd vl (ru).toInt (jl + 2)).2.1 (n0 : Int32).toNatClampNeg))) ∧ (∃ y9_4 y9_7 : Int32, S'.1 209 4 = .int y9_4 ∧ S'.1 209 7 = .int y9_7 ∧ (((y9_4).toInt ≤ (en).toInt ∧ ((r).toInt = 1 → ((sc).toInt + 1 ≤ (y9_7).toInt ∧ (y9_7).toInt - (sc).toInt ≤ (y9_4).toInt - (n0).toInt))) ∧ g_ans r ((x_lv kd vl (ru).toInt (jl + 2)).2.1 (n0 : Int32).toNatClampNeg) (y9_4 : Int32).toNatClampNeg)) ∧ G9X S0 d0 S' ∧ True) (dg_B g D shX o rfX) A) args s 0 0 A) (F0 m 8 ls []) := by
    as_aux_lemma =>
      intro n
      induction n with
      | zero =>
        intro x_101 x_102 x_103 x_104 b_x_101 b_x_102 b_x_103 b_x_104 rel_0 hmu S_105 I_105 M_105 ff_105_4_209 ff_105_7_209 G9_105 srel_105_0 srel_105_1 srel_105_2 H locs hP hS ls hl
        omega
      | succ n ih =>
        as_aux_lemma =>
          intro x_101 x_102 x_103 x_104 b_x_101 b_x_102 b_x_103 b_x_104 rel_0 hmu S_105 I_105 M_105 ff_105_4_209 ff_105_7_209 G9_105 srel_105_0 srel_105_1 srel_105_2 H locs hP hS ls hl
          refine lv_iload_n hx hb dX6_readTest_8 rfl (lv_at hl 0 rfl) ?_
          refine lv_sipush (v := 1600) hx hb dX6_readTest_9 (by decide +kernel) ?_
          refine lv_icmp_ge (tgt := 50) hx hb dX6_readTest_12 (dk_dq rfl) (fun c_107 => ?_) (fun c_107 => ?_)
          · have jc_107 := dk_gec (k := 1600) (by decide +kernel) c_107
            refine lv_iload_n hx hb dX6_readTest_50 rfl (lv_at hl 1 rfl) ?_
            refine W.widen (k := 0) (n := 0) (Nat.le_of_ble_eq_true rfl) (Nat.le_of_ble_eq_true rfl) ?_
            exact dg_iret hx hb hr hlocks (dk_znar2 (by omega)) hP hS ⟨I_105, M_105, (by omega), (m_hid.mk (fun q9 => q_as.to ((q_it.stop srel_105_2 (fun _ => Or.inl (by omega))) q9) (d_lv_t (e := (jl + 1))))), ⟨x_103, x_104, ff_105_4_209, ff_105_7_209, ⟨⟨by omega, by omega⟩, (show g_ans x_102 (x_test kd vl (x_lv kd vl (ru).toInt (jl + 2)).2.2 (n0 : Int32).toNatClampNeg) (x_103 : Int32).toNatClampNeg from g_it.stop srel_105_0 (fun _ => Or.inl (by omega)))⟩⟩, G9_105, trivial⟩ dX6_readTest_51
          · as_aux_lemma =>
              have jc_107 := dk_ngec (k := 1600) (by decide +kernel) c_107
              refine lv_iload_n hx hb dX6_readTest_15 rfl (lv_at hl 1 rfl) ?_
              refine lv_if_eq (tgt := 50) hx hb dX6_readTest_16 (dk_dq rfl) (fun c_108 => ?_) (fun c_108 => ?_)
              · have jc_108 := dk_eqc (k := 0) (by decide +kernel) c_108
                refine lv_iload_n hx hb dX6_readTest_50 rfl (lv_at hl 1 rfl) ?_
                refine W.widen (k := 0) (n := 0) (Nat.le_of_ble_eq_true rfl) (Nat.le_of_ble_eq_true rfl) ?_
                exact dg_iret hx hb hr hlocks (dk_znar2 (by omega)) hP hS ⟨I_105, M_105, (by omega), (m_hid.mk (fun q9 => absurd q9 (by omega))), ⟨x_103, x_104, ff_105_4_209, ff_105_7_209, ⟨⟨by omega, by omega⟩, (show g_ans x_102 (x_test kd vl (x_lv kd vl (ru).toInt (jl + 2)).2.2 (n0 : Int32).toNatClampNeg) (x_103 : Int32).toNatClampNeg from g_it.stop srel_105_0 (fun h9 => absurd h9 (by omega)))⟩⟩, G9_105, trivial⟩ dX6_readTest_51
              · as_aux_lemma =>
                  have jc_108 := dk_neqc (k := 0) (by decide +kernel) c_108
                  refine lv_aload_n hx hb dX6_readTest_19 rfl (lv_at hl 2 rfl) ?_
                  refine lv_bipush (v := 21) hx hb dX6_readTest_20 (by decide +kernel) ?_
                  refine dg_calli hS hA1 hA (va_runV (As := [.int 21]) (rest := []) F (c_rd_isOwn l g D o S_105 21 en kd vl x_103 ff_105_4_209 (by omega) ke ((congrFun (M_105.2 211 _ sX_211 (dk_dq rfl)).1 _).trans f_ke) (by omega) (by omega) (fun k9 h9 => (congrFun (M_105.2 211 _ sX_211 (dk_dq rfl)).1 k9).trans (hkd k9 h9)) (fun k9 h9 => (congrFun (M_105.2 213 _ sX_213 (dk_dq rfl)).1 k9).trans (hvl k9 h9)) I_105 H.size) (cwV 1 hts (bw_V wB_21 wB_22 wB_23 wB_24 wB_20) rfl rfl rfl (by decide +kernel) ⟨by dsimp only; omega, by dsimp only; omega⟩) (dg_preV sX_209 rfl K ST hP hS hA1 hA) rfl rfl hl.1 rfl (lv_room (Nat.le_of_ble_eq_true rfl)) dX6_readTest_22 ⟨Nat.le_of_ble_eq_true rfl, Nat.le_of_ble_eq_true rfl⟩) (fun x_109 S_110 hw_110 H locs hP hS => ?_)
                  rw [hw_110.1] at hP
                  obtain ⟨hq_110, w_110_0, w_110_1, -⟩ := hw_110
                  have hz_111 : (21 : Int32).toInt = 21 := by decide +kernel
                  have w_110_0 : 0 ≤ (x_109).toInt ∧ (x_109).toInt ≤ 1 := w_110_0
                  have w_110_1 : (x_109).toInt = 1 ↔ g_o kd vl ((21 : Int32)).toInt (x_103 : Int32).toNatClampNeg = true := w_110_1
                  refine lv_if_eq (tgt := 50) hx hb dX6_readTest_25 (dk_dq rfl) (fun c_112 => ?_) (fun c_112 => ?_)
                  · have jc_112 := dk_eqc (k := 0) (by decide +kernel) c_112
                    have qw_110_1 : g_o kd vl 21 (x_103 : Int32).toNatClampNeg = false := by have h9 := g_iff_f w_110_1 (by omega); rw [show (21 : Int32).toInt = 21 from by decide +kernel] at h9; exact h9
                    refine lv_iload_n hx hb dX6_readTest_50 rfl (lv_at hl 1 rfl) ?_
                    refine W.widen (k := 0) (n := 0) (Nat.le_of_ble_eq_true rfl) (Nat.le_of_ble_eq_true rfl) ?_
                    exact dg_iret hx hb hr hlocks (dk_znar2 (by omega)) hP hS ⟨I_105, M_105, (by omega), (m_hid.mk (fun q9 => q_as.to ((q_it.stop srel_105_2 (fun _ => Or.inr qw_110_1)) q9) (d_lv_t (e := (jl + 1))))), ⟨x_103, x_104, ff_105_4_209, ff_105_7_209, ⟨⟨by omega, by omega⟩, (show g_ans x_102 (x_test kd vl (x_lv kd vl (ru).toInt (jl + 2)).2.2 (n0 : Int32).toNatClampNeg) (x_103 : Int32).toNatClampNeg from g_it.stop srel_105_0 (fun _ => Or.inr qw_110_1))⟩⟩, G9_105, trivial⟩ dX6_readTest_51
                  · as_aux_lemma =>
                      have jc_112 := dk_neqc (k := 0) (by decide +kernel) c_112
                      have qw_110_1 : g_o kd vl 21 (x_103 : Int32).toNatClampNeg = true := by have h9 := w_110_1.mp (by omega); rw [show (21 : Int32).toInt = 21 from by decide +kernel] at h9; exact h9
                      refine lv_aload_n hx hb dX6_readTest_28 rfl (lv_at hl 2 rfl) ?_
                      refine dg_callv hS hA1 hA (va_runV (As := []) (rest := []) F (c_rd_pass l g D o S_105 en kd vl x_103 ff_105_4_209 (by omega) ke ((congrFun (M_105.2 211 _ sX_211 (dk_dq rfl)).1 _).trans f_ke) (by omega) (by omega) (fun k9 h9 => (congrFun (M_105.2 211 _ sX_211 (dk_dq rfl)).1 k9).trans (hkd k9 h9)) (fun k9 h9 => (congrFun (M_105.2 213 _ sX_213 (dk_dq rfl)).1 k9).trans (hvl k9 h9)) I_105 H.size) (cwV 0 hts (bw_V wB_26 wB_27 wB_28 wB_24 wB_25) rfl rfl rfl (by decide +kernel) ⟨by dsimp only; omega, by dsimp only; omega⟩) (dg_preV sX_209 rfl K ST hP hS hA1 hA) rfl rfl hl.1 rfl (lv_room (Nat.le_of_ble_eq_true rfl)) dX6_readTest_29 ⟨Nat.le_of_ble_eq_true rfl, Nat.le_of_ble_eq_true rfl⟩) (fun S_113 hw_113 H locs hP hS => ?_)
                      obtain ⟨I_113, m_113, w_113_0, -⟩ := hw_113
                      have M_113 := dg_sm.tr M_105 m_113 (dk_dq rfl) (dk_dq rfl)
                      obtain ⟨y_114, f_y_114, w_113_0⟩ := w_113_0
                      have w_113_0 : (y_114).toInt ≤ (en).toInt ∧ ((kd (x_103 : Int32).toNatClampNeg).toInt ≠ 0 → (y_114 : Int32).toNatClampNeg = (x_103 : Int32).toNatClampNeg + 1) := w_113_0
                      have b_y_114 : 0 ≤ (y_114).toInt ∧ (y_114).toInt ≤ 1600 := dg_I.intb (lo := 0) (hi := 1600) I_113 sX_209 (by decide +kernel) f_y_114
                      have nq_y_114 : (y_114 : Int32).toNatClampNeg = (x_103 : Int32).toNatClampNeg + 1 := by have h9 := w_113_0.2 (g_o_ne qw_110_1); omega
                      have ni_y_114 : (y_114).toInt = (x_103).toInt + 1 := by have h8 := dk_clN y_114; have h9 := dk_clN x_103; omega
                      refine lv_aload_n hx hb dX6_readTest_32 rfl (lv_at hl 2 rfl) ?_
                      refine lv_iload_n hx hb dX6_readTest_33 rfl (lv_at hl 3 rfl) ?_
                      refine dg_calli hS hA1 hA (va_runV (As := [.int dp]) (rest := []) F (cg_readBoth jl dp dq hdp hdq hLT hLS hLF l g D o S_113 en kd vl S0 d0 gd hk_gd (((m_113.1 209 3 _ sX_209 (dk_dq rfl)).trans (M_105.1 209 3 _ sX_209 (dk_dq rfl))).trans f_gd) y_114 f_y_114 (by omega) ru (((m_113.1 209 6 _ sX_209 (dk_dq rfl)).trans (M_105.1 209 6 _ sX_209 (dk_dq rfl))).trans f_ru) (by omega) x_104 ((m_113.1 209 7 _ sX_209 (dk_dq rfl)).trans ff_105_7_209) (by omega) ke ((congrFun ((m_113.2 211 _ sX_211 (dk_dq rfl)).1.trans (M_105.2 211 _ sX_211 (dk_dq rfl)).1) _).trans f_ke) (by omega) (by omega) (fun k9 h9 => (congrFun ((m_113.2 211 _ sX_211 (dk_dq rfl)).1.trans (M_105.2 211 _ sX_211 (dk_dq rfl)).1) k9).trans (hkd k9 h9)) (fun k9 h9 => (congrFun ((m_113.2 213 _ sX_213 (dk_dq rfl)).1.trans (M_105.2 213 _ sX_213 (dk_dq rfl)).1) k9).trans (hvl k9 h9)) (by omega) hd0 (G9X.keep G9_105 m_113 (dk_dq rfl)) I_113 H.size) (cwV 1 hts (bw_V wB_144 wB_145 wB_146 wB_24 wB_143) rfl rfl rfl (by decide +kernel) ⟨by dsimp only; omega, by dsimp only; omega⟩) (dg_preV sX_209 rfl K ST hP hS hA1 hA) rfl rfl hl.1 rfl (lv_room (Nat.le_of_ble_eq_true rfl)) dX6_readTest_34 ⟨Nat.le_of_ble_eq_true rfl, Nat.le_of_ble_eq_true rfl⟩) (fun x_115 S_116 hw_116 H locs hP hS => ?_)
                      obtain ⟨I_116, m_116, w_116_0, w_116_1, w_116_2, w_116_3, -⟩ := hw_116
                      have M_116 := dg_sm.tr M_113 m_116 (dk_dq rfl) (dk_dq rfl)
                      have w_116_0 : 0 ≤ (x_115).toInt ∧ (x_115).toInt ≤ 1 := w_116_0
                      replace w_116_1 : m_hid ((x_115).toInt = 1 → q_as gd S_113 S_116 x_104 (d_both kd vl (x_lv kd vl (ru).toInt (jl + 2)).2.2 (d_lv kd vl (ru).toInt (jl + 2)).2.2 (y_114 : Int32).toNatClampNeg)) := w_116_1
                      have ap_116 : m_hid ((x_115).toInt = 1 → q_as gd S_105 S_116 x_104 (d_both kd vl (x_lv kd vl (ru).toInt (jl + 2)).2.2 (d_lv kd vl (ru).toInt (jl + 2)).2.2 ((x_103 : Int32).toNatClampNeg + 1))) := m_hid.mk (fun q9 => (q_as.fst (m_113.2 (gd + 9) _ (rX_9 gd hk_gd) (dk_dq rfl)).1 (by have h9 := w_116_1.out q9; rw [nq_y_114] at h9; exact h9)))
                      obtain ⟨y_117, y_118, f_y_117, f_y_118, w_116_2⟩ := w_116_2
                      have w_116_2 : ((y_117).toInt ≤ (en).toInt ∧ ((x_115).toInt = 1 → ((x_104).toInt + 1 ≤ (y_118).toInt ∧ (y_118).toInt - (x_104).toInt ≤ (y_117).toInt - (y_114).toInt))) ∧ g_ans x_115 (x_both kd vl (x_lv kd vl (ru).toInt (jl + 2)).2.2 (y_114 : Int32).toNatClampNeg) (y_117 : Int32).toNatClampNeg := w_116_2
                      have b_y_117 : 0 ≤ (y_117).toInt ∧ (y_117).toInt ≤ 1600 := dg_I.intb (lo := 0) (hi := 1600) I_116 sX_209 (by decide +kernel) f_y_117
                      have b_y_118 : 0 ≤ (y_118).toInt ∧ (y_118).toInt ≤ 1600 := dg_I.intb (lo := 0) (hi := 1600) I_116 sX_209 (by decide +kernel) f_y_118
                      refine lv_istore_n (lv' := [(2, .int x_115), (3, .int x_101), (0, .ref (o + 209)), (1, .int dp)]) hx hb dX6_readTest_37 rfl hl (dk_dq rfl) rfl (fun ls hl => ?_)
                      refine lv_aload_n hx hb dX6_readTest_38 rfl (lv_at hl 2 rfl) ?_
                      refine lv_bipush (v := (-21)) hx hb dX6_readTest_39 (by decide +kernel) ?_
                      refine dg_callv hS hA1 hA (va_runV (As := [.int (-21)]) (rest := []) F (c_rd_put l g D o S_116 (-21) en S0 d0 gd hk_gd (((m_116.1 209 3 _ sX_209 (dk_dq rfl)).trans ((m_113.1 209 3 _ sX_209 (dk_dq rfl)).trans (M_105.1 209 3 _ sX_209 (dk_dq rfl)))).trans f_gd) y_117 f_y_117 (by omega) y_118 f_y_118 (by omega) ke ((congrFun ((m_116.2 211 _ sX_211 (dk_dq rfl)).1.trans ((m_113.2 211 _ sX_211 (dk_dq rfl)).1.trans (M_105.2 211 _ sX_211 (dk_dq rfl)).1)) _).trans f_ke) (by omega) (by omega) hd0 w_116_3 I_116 H.size) (cwV 1 hts (bw_V wB_96 wB_97 wB_98 wB_24 wB_95) rfl rfl rfl (by decide +kernel) ⟨by dsimp only; omega, by dsimp only; omega⟩) (dg_preV sX_209 rfl K ST hP hS hA1 hA) rfl rfl hl.1 rfl (lv_room (Nat.le_of_ble_eq_true rfl)) dX6_readTest_41 ⟨Nat.le_of_ble_eq_true rfl, Nat.le_of_ble_eq_true rfl⟩) (fun S_119 hw_119 H locs hP hS => ?_)
                      obtain ⟨I_119, m_119, w_119_0, w_119_1, w_119_2, -⟩ := hw_119
                      have M_119 := dg_sm.tr M_116 m_119 (dk_dq rfl) (dk_dq rfl)
                      have hz_120 : (-21 : Int32).toInt = (-21) := by decide +kernel
                      replace w_119_0 : m_hid ((y_118).toInt < 1600 → q_as gd S_116 S_119 y_118 [((-21 : Int32)).toInt]) := w_119_0
                      have ap_119 : m_hid ((x_115).toInt = 1 → q_as gd S_105 S_119 x_104 (d_both kd vl (x_lv kd vl (ru).toInt (jl + 2)).2.2 (d_lv kd vl (ru).toInt (jl + 2)).2.2 ((x_103 : Int32).toNatClampNeg + 1) ++ [-21])) := m_hid.mk (fun q9 => (q_as.tr (ap_116.out q9) rfl rfl f_y_118 (by have h9 := w_119_0.out (by omega); rw [show (-21 : Int32).toInt = -21 from by decide +kernel] at h9; exact h9)))
                      obtain ⟨y_121, f_y_121, w_119_1⟩ := w_119_1
                      have w_119_1 : (y_118).toInt < 1600 → (y_121).toInt = (y_118).toInt + 1 := w_119_1
                      have b_y_121 : 0 ≤ (y_121).toInt ∧ (y_121).toInt ≤ 1600 := dg_I.intb (lo := 0) (hi := 1600) I_119 sX_209 (by decide +kernel) f_y_121
                      obtain ⟨x_122, ex_122⟩ : ∃ z, z = x_101 + 1 := ⟨_, rfl⟩
                      have jx_122 : (x_122).toInt = (x_101).toInt + 1 := by rw [ex_122]; exact dk_addT2 rfl (by decide +kernel) (by omega)
                      refine lv_iinc (v := x_122) (lv' := [(3, .int x_122), (2, .int x_115), (0, .ref (o + 209)), (1, .int dp)]) hx hb dX6_readTest_44 hl (k := 1) rfl (by rw [ex_122]; rfl) (dk_dq rfl) rfl (fun ls hl => ?_)
                      refine lv_goto (tgt := 8) hx hb dX6_readTest_47 (dk_dq rfl) ?_
                      exact ih x_122 x_115 y_117 y_121 (by omega) (by omega) (by omega) (by omega) (by omega) (by first | exact mu_lt hmu (by omega) (by omega) | omega) S_119 I_119 M_119 ((m_119.1 209 4 _ sX_209 (dk_dq rfl)).trans f_y_117) f_y_121 w_119_2 (g_it.step srel_105_0 (by omega) (by omega) qw_110_1 (by have h9 := w_116_2.2; rw [nq_y_114] at h9; exact h9)) (by omega) (q_it.step srel_105_2 (by omega) (by omega) qw_110_1 (by have h9 := w_116_2.2; rw [nq_y_114] at h9; exact h9) ff_105_7_209 ap_119.out rfl) _ _ hP hS _ (lv_sub hl [0, 1, 2, 3] rfl)
  have hz_123 : (0 : Int32).toInt = 0 := by decide +kernel
  have hz_124 : (0 : Int32).toInt = 0 := by decide +kernel
  have hz_125 : (0 : Int32).toInt = 0 := by decide +kernel
  exact L_106 ((1601 - ((0 : Int32)).toInt).toNat + 1) 0 x_1 y_3 y_4 (by decide +kernel) (by omega) (by omega) (by omega) (by omega) (by first | exact mu_lt hmu (by omega) (by omega) | omega) S_2 I_2 M_2 f_y_3 f_y_4 w_2_3 (by rw [show (1600 - (0 : Int32).toInt).toNat = 1600 from by decide +kernel]; exact g_it.start w_2_2.2) (by omega) (by rw [show (1600 - (0 : Int32).toInt).toNat = 1600 from by decide +kernel]; exact q_it.start d_test_e w_2_2.2 ap_2.out) _ _ hP hS _ (lv_sub hl [0, 1, 2, 3] rfl)
theorem lvT7 : lvT 7 0 := c_rd_readTest_7
theorem lvS7 : lvS 7 0 := c_rd_readSum_7
theorem lvF7 : lvF 7 0 := c_rd_readFact_7
theorem lvT6 : lvT 6 1 := cg_readTest 0 6 7 (by decide +kernel) (by decide +kernel) lvT7 lvS7 lvF7
theorem lvS6 : lvS 6 1 := cg_readSum 0 6 7 (by decide +kernel) (by decide +kernel) lvT7 lvS7 lvF7
theorem lvF6 : lvF 6 1 := cg_readFact 0 6 7 (by decide +kernel) (by decide +kernel) lvT7 lvS7 lvF7
theorem lvT5 : lvT 5 2 := cg_readTest 1 5 6 (by decide +kernel) (by decide +kernel) lvT6 lvS6 lvF6
theorem lvS5 : lvS 5 2 := cg_readSum 1 5 6 (by decide +kernel) (by decide +kernel) lvT6 lvS6 lvF6
theorem lvF5 : lvF 5 2 := cg_readFact 1 5 6 (by decide +kernel) (by decide +kernel) lvT6 lvS6 lvF6
theorem lvT4 : lvT 4 3 := cg_readTest 2 4 5 (by decide +kernel) (by decide +kernel) lvT5 lvS5 lvF5
theorem lvS4 : lvS 4 3 := cg_readSum 2 4 5 (by decide +kernel) (by decide +kernel) lvT5 lvS5 lvF5
theorem lvF4 : lvF 4 3 := cg_readFact 2 4 5 (by decide +kernel) (by decide +kernel) lvT5 lvS5 lvF5
theorem lvT3 : lvT 3 4 := cg_readTest 3 3 4 (by decide +kernel) (by decide +kernel) lvT4 lvS4 lvF4
theorem lvS3 : lvS 3 4 := cg_readSum 3 3 4 (by decide +kernel) (by decide +kernel) lvT4 lvS4 lvF4
theorem lvF3 : lvF 3 4 := cg_readFact 3 3 4 (by decide +kernel) (by decide +kernel) lvT4 lvS4 lvF4
theorem lvT2 : lvT 2 5 := cg_readTest 4 2 3 (by decide +kernel) (by decide +kernel) lvT3 lvS3 lvF3
theorem lvS2 : lvS 2 5 := cg_readSum 4 2 3 (by decide +kernel) (by decide +kernel) lvT3 lvS3 lvF3
theorem lvF2 : lvF 2 5 := cg_readFact 4 2 3 (by decide +kernel) (by decide +kernel) lvT3 lvS3 lvF3
theorem lvT1 : lvT 1 6 := cg_readTest 5 1 2 (by decide +kernel) (by decide +kernel) lvT2 lvS2 lvF2
theorem lvS1 : lvS 1 6 := cg_readSum 5 1 2 (by decide +kernel) (by decide +kernel) lvT2 lvS2 lvF2
theorem lvF1 : lvF 1 6 := cg_readFact 5 1 2 (by decide +kernel) (by decide +kernel) lvT2 lvS2 lvF2
theorem lvT0 : lvT 0 7 := cg_readTest 6 0 1 (by decide +kernel) (by decide +kernel) lvT1 lvS1 lvF1
theorem lvS0 : lvS 0 7 := cg_readSum 6 0 1 (by decide +kernel) (by decide +kernel) lvT1 lvS1 lvF1
theorem lvF0 : lvF 0 7 := cg_readFact 6 0 1 (by decide +kernel) (by decide +kernel) lvT1 lvS1 lvF1
theorem c_rd_readTest_0 (l : Launch) (g : Nat → ClassId) (D : va_G) (o : Nat) (S : dg_S) (en : Int32) (kd : Nat → Int32) (vl : Nat → Int32) (S0 : dg_S) (d0 : Nat) (gd : Nat) (hk_gd : rX gd) (f_gd : S.1 209 3 = .ref (o + gd)) (n0 : Int32) (f_n0 : S.1 209 4 = .int n0) (b_n0 : 0 ≤ (n0).toInt ∧ (n0).toInt ≤ 1600) (ru : Int32) (f_ru : S.1 209 6 = .int ru) (b_ru : 0 ≤ (ru).toInt ∧ (ru).toInt ≤ 2) (sc : Int32) (f_sc : S.1 209 7 = .int sc) (b_sc : 0 ≤ (sc).toInt ∧ (sc).toInt ≤ 1600) (ke : Int32) (f_ke : S.2.1 211 (en : Int32).toNatClampNeg = ke) (b_ke : 0 ≤ (ke).toInt ∧ (ke).toInt ≤ 0) (hne : (n0).toInt ≤ (en).toInt ∧ (en).toInt ≤ 1600 ∧ 0 ≤ (en).toInt) (hkd : ∀ k9 : Nat, k9 ≤ (en : Int32).toNatClampNeg → S.2.1 211 k9 = kd k9) (hvl : ∀ k9 : Nat, k9 ≤ (en : Int32).toNatClampNeg → S.2.1 213 k9 = vl k9) (hsc : (sc).toInt ≤ (n0).toInt) (hd0 : d0 ≠ gd) (G9 : G9X S0 d0 S) (I : CX o S) (sz : Nat) : Met l yX6_readTest (bw yX6_readTest cX6_readTest 4 (some .boolean)) ({ frames := 67, cells := 0, slots := 0, locals := 1538 } : Room) (dk_Pc g D (dg_w g shX o rfX S) sz [.ref (o + 209), .int 0]) (va_Qi (fun (r : Int32) S' => CX o S' ∧ dg_sm shX [(31, 0), (31, 1), (31, 4), (31, 7)] [28] S S' ∧ (0 ≤ (r).toInt ∧ (r).toInt ≤ 1) ∧ (m_hid ((r).toInt = 1 → q_as gd S S' sc ((d_lv kd vl (ru).toInt 8).2.1 (n0 : Int32).toNatClampNeg))) ∧ (∃ y9_4 y9_7 : Int32, S'.1 209 4 = .int y9_4 ∧ S'.1 209 7 = .int y9_7 ∧ (((y9_4).toInt ≤ (en).toInt ∧ ((r).toInt = 1 → ((sc).toInt + 1 ≤ (y9_7).toInt ∧ (y9_7).toInt - (sc).toInt ≤ (y9_4).toInt - (n0).toInt))) ∧ g_ans r ((x_lv kd vl (ru).toInt 8).2.1 (n0 : Int32).toNatClampNeg) (y9_4 : Int32).toNatClampNeg)) ∧ G9X S0 d0 S' ∧ True) (dg_B g D shX o rfX) (dg_A o shX.length sz)) 0 0 (dg_A o shX.length sz) :=
  lvT0 l g D o S en kd vl S0 d0 gd hk_gd f_gd n0 f_n0 b_n0 ru f_ru b_ru sc f_sc b_sc ke f_ke b_ke hne hkd hvl hsc hd0 G9 I sz
theorem c_rd_readSum_0 (l : Launch) (g : Nat → ClassId) (D : va_G) (o : Nat) (S : dg_S) (en : Int32) (kd : Nat → Int32) (vl : Nat → Int32) (S0 : dg_S) (d0 : Nat) (gd : Nat) (hk_gd : rX gd) (f_gd : S.1 209 3 = .ref (o + gd)) (n0 : Int32) (f_n0 : S.1 209 4 = .int n0) (b_n0 : 0 ≤ (n0).toInt ∧ (n0).toInt ≤ 1600) (ru : Int32) (f_ru : S.1 209 6 = .int ru) (b_ru : 0 ≤ (ru).toInt ∧ (ru).toInt ≤ 2) (sc : Int32) (f_sc : S.1 209 7 = .int sc) (b_sc : 0 ≤ (sc).toInt ∧ (sc).toInt ≤ 1600) (ke : Int32) (f_ke : S.2.1 211 (en : Int32).toNatClampNeg = ke) (b_ke : 0 ≤ (ke).toInt ∧ (ke).toInt ≤ 0) (hne : (n0).toInt ≤ (en).toInt ∧ (en).toInt ≤ 1600 ∧ 0 ≤ (en).toInt) (hkd : ∀ k9 : Nat, k9 ≤ (en : Int32).toNatClampNeg → S.2.1 211 k9 = kd k9) (hvl : ∀ k9 : Nat, k9 ≤ (en : Int32).toNatClampNeg → S.2.1 213 k9 = vl k9) (hsc : (sc).toInt ≤ (n0).toInt) (hd0 : d0 ≠ gd) (G9 : G9X S0 d0 S) (I : CX o S) (sz : Nat) : Met l yX6_readSum (bw yX6_readSum cX6_readSum 5 (some .boolean)) ({ frames := 63, cells := 0, slots := 0, locals := 1446 } : Room) (dk_Pc g D (dg_w g shX o rfX S) sz [.ref (o + 209), .int 0]) (va_Qi (fun (r : Int32) S' => CX o S' ∧ dg_sm shX [(31, 0), (31, 1), (31, 4), (31, 7)] [28] S S' ∧ (0 ≤ (r).toInt ∧ (r).toInt ≤ 1) ∧ (m_hid ((r).toInt = 1 → q_as gd S S' sc ((d_lv kd vl (ru).toInt 8).1 (n0 : Int32).toNatClampNeg))) ∧ (∃ y9_4 y9_7 : Int32, S'.1 209 4 = .int y9_4 ∧ S'.1 209 7 = .int y9_7 ∧ (((y9_4).toInt ≤ (en).toInt ∧ ((r).toInt = 1 → ((sc).toInt + 1 ≤ (y9_7).toInt ∧ (y9_7).toInt - (sc).toInt ≤ (y9_4).toInt - (n0).toInt))) ∧ g_ans r ((x_lv kd vl (ru).toInt 8).1 (n0 : Int32).toNatClampNeg) (y9_4 : Int32).toNatClampNeg)) ∧ G9X S0 d0 S' ∧ True) (dg_B g D shX o rfX) (dg_A o shX.length sz)) 0 0 (dg_A o shX.length sz) :=
  lvS0 l g D o S en kd vl S0 d0 gd hk_gd f_gd n0 f_n0 b_n0 ru f_ru b_ru sc f_sc b_sc ke f_ke b_ke hne hkd hvl hsc hd0 G9 I sz
