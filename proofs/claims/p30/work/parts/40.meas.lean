/-! 40.meas.lean.txt -/
/-! how far: the reference's own walk (measures) -/
def ZF0 (S : dg_S) (sh c : Int) : Prop := ∀ j : Nat, (j : Int) < c → ((j : Int) ≠ sh → (S.2.1 42 j).toInt = 100000000) ∧ ((j : Int) = sh → (S.2.1 42 j).toInt = 0)
def ZQM (S : dg_S) (m : Int) : Prop := (∀ j : Nat, j < 64 → (S.2.1 42 j).toInt = 100000000 ∨ (0 ≤ (S.2.1 42 j).toInt ∧ (S.2.1 42 j).toInt ≤ 64 - (dk_cnt (S.2.1 42) 100000000 64 : Int))) ∧ (∀ j : Nat, j < 64 → (j : Int) < m → (S.2.1 42 (S.2.1 43 j).toNatClampNeg).toInt ≠ 100000000) ∧ m + (dk_cnt (S.2.1 42) 100000000 64 : Int) ≤ 64
theorem ZF0.step {S S1 : dg_S} {sh : Int} {c v : Int32} (h : ZF0 S sh c.toInt) (hin : vp_in c 64) (e : S1 = dg_uf S 42 (upd (S.2.1 42) c.toNatClampNeg v)) (h1 : c.toInt = sh → v.toInt = 0) (h2 : c.toInt ≠ sh → v.toInt = 100000000) {c' : Int} (hc : c' = c.toInt + 1) : ZF0 S1 sh c' := by
  have e1 := dk_inT hin
  intro j hj
  rw [dg_uf_at e]
  unfold upd
  split
  · rename_i q
    exact ⟨fun z => h2 (by omega), fun z => h1 (by omega)⟩
  · exact h j (by omega)
theorem dk_cnt_one {f : Nat → Int32} {k : Int} {s : Nat} (hs : (f s).toInt ≠ k) : ∀ {n : Nat}, (∀ j, j < n → j ≠ s → (f j).toInt = k) → dk_cnt f k n + (if s < n then 1 else 0) = n
  | 0, _ => by simp [dk_cnt]
  | n + 1, h => by
    have ih := dk_cnt_one (f := f) (k := k) hs (n := n) (fun j hj => h j (by omega))
    unfold dk_cnt
    by_cases q : n = s
    · subst q
      rw [if_neg hs]
      rw [if_neg (by omega)] at ih
      rw [if_pos (by omega)]
      omega
    · rw [if_pos (h n (by omega) q)]
      by_cases z : s < n
      · rw [if_pos z] at ih
        rw [if_pos (by omega)]
        omega
      · rw [if_neg z] at ih
        rw [if_neg (by omega)]
        omega
theorem ZQM.first {S S1 : dg_S} {x : Int32} (h : ZF0 S x.toInt 64) (h0 : 0 ≤ x.toInt ∧ x.toInt ≤ 63) {i : Int32} (hi : i.toNatClampNeg = 0) (e : S1 = dg_uf S 43 (upd (S.2.1 43) i.toNatClampNeg x)) : ZQM S1 1 := by
  have hx : x.toNatClampNeg < 64 ∧ ((x.toNatClampNeg : Nat) : Int) = x.toInt := by rw [dk_clN]; omega
  have hf : S1.2.1 42 = S.2.1 42 := dg_uf_ne e (by decide)
  have hs := (h x.toNatClampNeg (by omega)).2 hx.2
  have hc := dk_cnt_one (f := S.2.1 42) (k := 100000000) (s := x.toNatClampNeg) (by rw [hs]; omega) (n := 64) (fun j hj hne => (h j (by omega)).1 (by omega))
  rw [if_pos hx.1] at hc
  refine ⟨fun j hj => ?_, fun j hj hlt => ?_, ?_⟩
  · rw [hf]
    by_cases q : (j : Int) = x.toInt
    · have := (h j (by omega)).2 q
      right
      omega
    · exact Or.inl ((h j (by omega)).1 q)
  · have hj0 : j = 0 := by omega
    subst hj0
    rw [hf, dg_uf_at e]
    have e2 : upd (S.2.1 43) i.toNatClampNeg x 0 = x := by
      unfold upd
      rw [if_pos hi.symm]
    rw [e2, hs]
    omega
  · rw [hf]
    omega
theorem ZQM.push {S S1 S2 : dg_S} {m w : Int32} {x y vo vc : Int32} (h : ZQM S m.toInt) (hx : vp_in x 64) (hy : vp_in y 64) (hm : vp_in m 64) (ho : vo = S.2.1 42 x.toNatClampNeg) (ho1 : 100000000 ≤ vo.toInt) (hc : vc = S.2.1 42 y.toNatClampNeg) (hc1 : vc.toInt ≠ 100000000) (hw : w.toInt = vc.toInt + 1)
    (e1 : S1 = dg_uf S 42 (upd (S.2.1 42) x.toNatClampNeg w)) (e2 : S2 = dg_uf S1 43 (upd (S1.2.1 43) m.toNatClampNeg x)) : ZQM S2 (m.toInt + 1) := by
  obtain ⟨h1, h2, h3⟩ := h
  have ex := dk_inT hx
  have ey := dk_inT hy
  have em := dk_inT hm
  have hvc := h1 _ ey.2
  rw [← hc] at hvc
  have hvo := h1 _ ex.2
  rw [← ho] at hvo
  have hf : S2.2.1 42 = upd (S.2.1 42) x.toNatClampNeg w := by rw [dg_uf_ne e2 (by decide), dg_uf_at e1]
  have hq : S2.2.1 43 = upd (S.2.1 43) m.toNatClampNeg x := by rw [dg_uf_at e2, dg_uf_ne e1 (by decide)]
  have hcnt := dk_cnt_hit (f := S.2.1 42) (k := 100000000) (n := 64) hx ho (by omega) (show w.toInt ≠ 100000000 by omega) rfl
  rw [← hf] at hcnt
  refine ⟨fun j hj => ?_, fun j hj hlt => ?_, by omega⟩
  · have hj1 := h1 j hj
    have e3 : S2.2.1 42 j = if j = x.toNatClampNeg then w else S.2.1 42 j := by rw [hf]; rfl
    rw [e3]
    split
    · right
      omega
    · omega
  · have e4 : S2.2.1 43 j = if j = m.toNatClampNeg then x else S.2.1 43 j := by rw [hq]; rfl
    rw [e4]
    split
    · rw [hf]
      have e5 : upd (S.2.1 42) x.toNatClampNeg w x.toNatClampNeg = w := by
        unfold upd
        rw [if_pos rfl]
      rw [e5]
      omega
    · rename_i q
      have h5 := h2 j hj (by omega)
      rw [hf]
      unfold upd
      split
      · omega
      · exact h5
theorem ZQM.cf {S S1 S2 : dg_S} {x y w m z : Int32} (hc : (S.2.1 42 y.toNatClampNeg).toInt ≠ 100000000) (hw : w.toInt ≠ 100000000) (e1 : S1 = dg_uf S 42 (upd (S.2.1 42) x.toNatClampNeg w)) (e2 : S2 = dg_uf S1 43 (upd (S1.2.1 43) m.toNatClampNeg z)) : (S2.2.1 42 y.toNatClampNeg).toInt ≠ 100000000 := by
  rw [dg_uf_ne e2 (by decide), dg_uf_at e1]
  unfold upd
  split
  · exact hw
  · exact hc
set_option maxHeartbeats 8000000 in
set_option maxRecDepth 100000 in
theorem c_m_measures1 (l : Launch) (g : Nat → ClassId) (D : va_G) (o : Nat) (S : dg_S) (a1 : Int32) (b_a1 : 0 ≤ (a1).toInt ∧ (a1).toInt ≤ 21) (bk : Int32) (f_bk : S.1 0 13 = .int bk) (b_bk : 0 ≤ (bk).toInt ∧ (bk).toInt ≤ 1) (sh : Int32) (f_sh : S.2.1 4 (bk : Int32).toNatClampNeg = sh) (b_sh : 0 ≤ (sh).toInt ∧ (sh).toInt ≤ 63) (ZB : ZBM S) (I : CM o S) (sz : Nat) : Met l yX12_measures (bw yX12_measures cX12_measures 7 none) ({ frames := 4, cells := 0, slots := 0, locals := 100 } : Room) (dk_Pc g D (dg_w g shM o rfM S) sz [.ref (o + 0), .int a1]) (va_Qv (fun S' => CM o S' ∧ dg_sm shM [] [42, 43] S S' ∧ True) (dg_B g D shM o rfM) (dg_A o shM.length sz)) 0 0 (dg_A o shM.length sz) := by
  refine dg_met (cc := cX12_measures) (maxL := 7) (ret := none) (by decide) rfl (Nat.le_of_ble_eq_true rfl) ?_
  intro p e s m args below meth c A hAe harg hx hb hr hml hts hown hlocks hin hP K hS hA1 hA ST hsz ls hl
  rw [← hAe]
  have F : CallFix p m c cX12_measures 7 s args (bw yX12_measures cX12_measures 7 none) RX12 := ⟨hx, hb, hml, hown, hts⟩
  have hl : lv_has ls 7 [(0, .ref (o + 0)), (1, .int a1)] := hl
  have M_0 : dg_sm shM [] [42, 43] S S := dg_sm.rf
  refine lv_iconst (v := 0) hx hb dX12_measures_0 (by decide +kernel) ?_
  refine lv_istore_n (lv' := [(2, .int 0), (0, .ref (o + 0)), (1, .int a1)]) hx hb dX12_measures_1 rfl hl (by decide) rfl (fun ls hl => ?_)
  have J_1172 : ∀ (x_40 : Int32), (64 ≤ (x_40).toInt ∧ (x_40).toInt ≤ 64) → ∀ S_1171 : dg_S, CM o S_1171 → dg_sm shM [] [42, 43] S S_1171 → (ZF0 S_1171 (sh).toInt 64) → ∀ (H : Heap) (locs : List Loc), va_P D vwCl (dg_w g shM o rfM S_1171) H → va_S A s.heap H locs → ∀ ls : Array Slot, lv_has ls 7 [(2, .int x_40), (0, .ref (o + 0)), (1, .int a1)] → W p l e ({ frames := 4, cells := 0, slots := 0, locals := 100 } : Room) s m args below meth c H locs 0 0 (MQ below (va_Qv (fun S' => CM o S' ∧ dg_sm shM [] [42, 43] S S' ∧ True) (dg_B g D shM o rfM) A) args s 0 0 A) (F0 m 40 ls []) := by
    intro x_40 b_x_40 S_1171 I_1171 M_1171 srel_1171_0 H locs hP hS ls hl
    refine lv_aload_n hx hb dX12_measures_40 rfl (lv_at hl 1 rfl) ?_
    refine dg_get (C := RX12) (T := TX12) (N := 77) hx hb hts (fun w h => bw_mem (wU_X12 w h)) hown K hP sM_0 rfl 67 (by decide) (hts _ (bw_mem wB_931)) (fun _ h9 => h9) (v := .ref (o + 43)) (show S_1171.1 0 67 = .ref (o + 43) from dg_I.rel (d := 43) I_1171 sM_0 (by decide +kernel)) dX12_measures_41 ?_
    refine lv_iconst (v := 0) hx hb dX12_measures_44 (by decide +kernel) ?_
    refine lv_aload_n hx hb dX12_measures_45 rfl (lv_at hl 1 rfl) ?_
    refine dg_get (C := RX12) (T := TX12) (N := 77) hx hb hts (fun w h => bw_mem (wU_X12 w h)) hown K hP sM_0 rfl 16 (by decide) (hts _ (bw_mem wB_917)) (fun _ h9 => h9) (v := .ref (o + 4)) (show S_1171.1 0 16 = .ref (o + 4) from dg_I.rel (d := 4) I_1171 sM_0 (by decide +kernel)) dX12_measures_46 ?_
    refine lv_aload_n hx hb dX12_measures_49 rfl (lv_at hl 1 rfl) ?_
    refine dg_get (C := RX12) (T := TX12) (N := 77) hx hb hts (fun w h => bw_mem (wU_X12 w h)) hown K hP sM_0 rfl 13 (by decide) (hts _ (bw_mem wB_869)) (fun _ h9 => h9) (v := .int bk) ((M_1171.1 0 13 _ sM_0 (by decide)).trans f_bk) dX12_measures_50 ?_
    have hin_1173 : vp_in bk 2 := (dk_inv (by omega) (by omega))
    refine dg_iald hx hb K hP sM_4 hin_1173 dX12_measures_53 (fun y_1174 ey_1174 => ?_)
    obtain rfl : sh = y_1174 := ((ey_1174.trans (congrFun (M_1171.2 4 _ sM_4 (by decide)).1 _)).trans f_sh).symm
    have hin_1175 : vp_in (0 : Int32) 64 := (dk_in (by decide +kernel))
    have hz_1177 : (0 : Int32).toInt = 0 := by decide +kernel
    refine dg_iast hx hb K hP hS hA1 sM_43 hin_1175 dX12_measures_54 (fun S_1176 e_1176 H locs hP hS => ?_)
    have I_1176 := dg_I.ufu (lo := 0) (hi := 63) I_1171 e_1176 sM_43 (by decide +kernel) (show 0 ≤ (sh).toInt ∧ (sh).toInt ≤ 63 from (by omega))
    have M_1176 := dg_sm.uf M_1171 e_1176 sM_43 (by decide)
    refine lv_iconst (v := 1) hx hb dX12_measures_55 (by decide +kernel) ?_
    refine lv_istore_n (lv' := [(2, .int 1), (0, .ref (o + 0)), (1, .int a1)]) hx hb dX12_measures_56 rfl hl (by decide) rfl (fun ls hl => ?_)
    refine lv_iconst (v := 0) hx hb dX12_measures_57 (by decide +kernel) ?_
    refine lv_istore_n (lv' := [(3, .int 0), (2, .int 1), (0, .ref (o + 0)), (1, .int a1)]) hx hb dX12_measures_58 rfl hl (by decide) rfl (fun ls hl => ?_)
    have L_2117 : ∀ (n : Nat) (x_2114 : Int32) (x_2115 : Int32), (0 ≤ (x_2114).toInt ∧ (x_2114).toInt ≤ 64) → (1 ≤ (x_2115).toInt ∧ (x_2115).toInt ≤ 64) → ((65 - (x_2114).toInt).toNat < n) → ∀ S_2116 : dg_S, CM o S_2116 → dg_sm shM [] [42, 43] S S_2116 → (ZQM S_2116 (x_2115 : Int32).toInt) → ∀ (H : Heap) (locs : List Loc), va_P D vwCl (dg_w g shM o rfM S_2116) H → va_S A s.heap H locs → ∀ ls : Array Slot, lv_has ls 7 [(3, .int x_2114), (2, .int x_2115), (0, .ref (o + 0)), (1, .int a1)] → W p l e ({ frames := 4, cells := 0, slots := 0, locals := 100 } : Room) s m args below meth c H locs 0 0 (MQ below (va_Qv (fun S' => CM o S' ∧ dg_sm shM [] [42, 43] S S' ∧ True) (dg_B g D shM o rfM) A) args s 0 0 A) (F0 m 59 ls []) := by
      intro n
      induction n with
      | zero =>
        intro x_2114 x_2115 b_x_2114 b_x_2115 hmu S_2116 I_2116 M_2116 srel_2116_0 H locs hP hS ls hl
        omega
      | succ n ih =>
        intro x_2114 x_2115 b_x_2114 b_x_2115 hmu S_2116 I_2116 M_2116 srel_2116_0 H locs hP hS ls hl
        refine lv_iload_n hx hb dX12_measures_59 rfl (lv_at hl 0 rfl) ?_
        refine lv_iload_n hx hb dX12_measures_60 rfl (lv_at hl 1 rfl) ?_
        refine lv_icmp_ge (tgt := 181) hx hb dX12_measures_61 (by decide) (fun c_2118 => ?_) (fun c_2118 => ?_)
        · have jc_2118 := dk_gec (k := (x_2115).toInt) rfl c_2118
          refine W.widen (k := 0) (n := 0) (Nat.le_of_ble_eq_true rfl) (Nat.le_of_ble_eq_true rfl) ?_
          exact dg_vret hx hb hr hlocks hP hS ⟨I_2116, M_2116, trivial⟩ dX12_measures_181
        · have jc_2118 := dk_ngec (k := (x_2115).toInt) rfl c_2118
          refine lv_aload_n hx hb dX12_measures_64 rfl (lv_at hl 2 rfl) ?_
          refine dg_get (C := RX12) (T := TX12) (N := 77) hx hb hts (fun w h => bw_mem (wU_X12 w h)) hown K hP sM_0 rfl 67 (by decide) (hts _ (bw_mem wB_931)) (fun _ h9 => h9) (v := .ref (o + 43)) (show S_2116.1 0 67 = .ref (o + 43) from dg_I.rel (d := 43) I_2116 sM_0 (by decide +kernel)) dX12_measures_65 ?_
          refine lv_iload_n hx hb dX12_measures_68 rfl (lv_at hl 0 rfl) ?_
          have hin_2119 : vp_in x_2114 64 := (dk_inv (by omega) (by omega))
          refine dg_iald hx hb K hP sM_43 hin_2119 dX12_measures_69 (fun x_2120 ex_2120 => ?_)
          have b_x_2120 := dk_all_at (dg_I.row (lo := 0) (hi := 63) I_2116 sM_43 (by decide +kernel)) hin_2119 ex_2120
          have qf_x_2120 : (S_2116.2.1 42 (x_2120).toNatClampNeg).toInt ≠ 100000000 := by rw [ex_2120]; exact srel_2116_0.2.1 _ (dk_inT hin_2119).2 (by have h9 := (dk_inT hin_2119).1; omega)
          refine lv_istore (lv' := [(4, .int x_2120), (3, .int x_2114), (2, .int x_2115), (0, .ref (o + 0)), (1, .int a1)]) hx hb dX12_measures_70 hl (by decide) rfl (fun ls hl => ?_)
          refine lv_aload_n hx hb dX12_measures_72 rfl (lv_at hl 3 rfl) ?_
          refine dg_get (C := RX12) (T := TX12) (N := 77) hx hb hts (fun w h => bw_mem (wU_X12 w h)) hown K hP sM_0 rfl 52 (by decide) (hts _ (bw_mem wB_885)) (fun _ h9 => h9) (v := .ref (o + 32)) (show S_2116.1 0 52 = .ref (o + 32) from dg_I.rel (d := 32) I_2116 sM_0 (by decide +kernel)) dX12_measures_73 ?_
          refine lv_bipush (v := 64) hx hb dX12_measures_76 (by decide +kernel) ?_
          refine lv_iload_n hx hb dX12_measures_78 rfl (lv_at hl 4 rfl) ?_
          refine lv_imul hx hb dX12_measures_79 ?_
          refine lv_topi (fun x_2121 ex_2121 => ?_)
          have jx_2121 : (x_2121).toInt = 64 * (a1).toInt := by rw [ex_2121]; exact dk_mulT (by decide +kernel) rfl (by omega) (by omega)
          refine lv_iload hx hb dX12_measures_80 (lv_at hl 0 rfl) ?_
          refine lv_iadd hx hb dX12_measures_82 ?_
          refine lv_topi (fun x_2122 ex_2122 => ?_)
          have jx_2122 : (x_2122).toInt = (x_2121).toInt + (x_2120).toInt := by rw [ex_2122]; exact dk_addT rfl rfl (by omega) (by omega)
          have hin_2123 : vp_in x_2122 1408 := (dk_inv (by omega) (by omega))
          refine dg_iald hx hb K hP sM_32 hin_2123 dX12_measures_83 (fun x_2124 ex_2124 => ?_)
          refine lv_iconst (v := 1) hx hb dX12_measures_84 (by decide +kernel) ?_
          refine lv_icmp_ne (tgt := 91) hx hb dX12_measures_85 (by decide) (fun c_2125 => ?_) (fun c_2125 => ?_)
          · have jc_2125 := dk_neqc (k := 1) (by decide +kernel) c_2125
            refine lv_iconst (v := 0) hx hb dX12_measures_91 (by decide +kernel) ?_
            refine lv_istore (lv' := [(5, .int 0), (4, .int x_2120), (3, .int x_2114), (2, .int x_2115), (0, .ref (o + 0)), (1, .int a1)]) hx hb dX12_measures_92 hl (by decide) rfl (fun ls hl => ?_)
            have J_2303 : ∀ (x_2298 : Int32) (x_2299 : Int32), (4 ≤ (x_2298).toInt ∧ (x_2298).toInt ≤ 2147483647) → (1 ≤ (x_2299).toInt ∧ (x_2299).toInt ≤ 64) → ∀ S_2302 : dg_S, CM o S_2302 → dg_sm shM [] [42, 43] S S_2302 → (ZQM S_2302 (x_2299 : Int32).toInt) → ∀ (H : Heap) (locs : List Loc), va_P D vwCl (dg_w g shM o rfM S_2302) H → va_S A s.heap H locs → ∀ ls : Array Slot, lv_has ls 7 [(5, .int x_2298), (4, .int x_2120), (3, .int x_2114), (2, .int x_2299), (0, .ref (o + 0)), (1, .int a1)] → W p l e ({ frames := 4, cells := 0, slots := 0, locals := 100 } : Room) s m args below meth c H locs 0 0 (MQ below (va_Qv (fun S' => CM o S' ∧ dg_sm shM [] [42, 43] S S' ∧ True) (dg_B g D shM o rfM) A) args s 0 0 A) (F0 m 175 ls []) := by
              intro x_2298 x_2299 b_x_2298 b_x_2299 S_2302 I_2302 M_2302 srel_2302_0 H locs hP hS ls hl
              obtain ⟨x_2304, ex_2304⟩ : ∃ z, z = x_2114 + 1 := ⟨_, rfl⟩
              have jx_2304 : (x_2304).toInt = (x_2114).toInt + 1 := by rw [ex_2304]; exact dk_addT rfl (by decide +kernel) (by omega) (by omega)
              refine lv_iinc (v := x_2304) (lv' := [(3, .int x_2304), (5, .int x_2298), (4, .int x_2120), (2, .int x_2299), (0, .ref (o + 0)), (1, .int a1)]) hx hb dX12_measures_175 hl (k := 2) rfl (by rw [ex_2304]; rfl) (by decide) rfl (fun ls hl => ?_)
              refine lv_goto (tgt := 59) hx hb dX12_measures_178 (by decide) ?_
              exact ih x_2304 x_2299 (by omega) (by omega) (by omega) S_2302 I_2302 M_2302 srel_2302_0 _ _ hP hS _ (lv_sub hl [0, 3, 4, 5] rfl)
            have L_2452 : ∀ (n : Nat) (x_2449 : Int32) (x_2450 : Int32), (0 ≤ (x_2449).toInt ∧ (x_2449).toInt ≤ 4) → (1 ≤ (x_2450).toInt ∧ (x_2450).toInt ≤ 64) → ((5 - (x_2449).toInt).toNat < n) → ∀ S_2451 : dg_S, CM o S_2451 → dg_sm shM [] [42, 43] S S_2451 → (ZQM S_2451 (x_2450 : Int32).toInt) → ((S_2451.2.1 42 (x_2120 : Int32).toNatClampNeg).toInt ≠ 100000000) → ∀ (H : Heap) (locs : List Loc), va_P D vwCl (dg_w g shM o rfM S_2451) H → va_S A s.heap H locs → ∀ ls : Array Slot, lv_has ls 7 [(5, .int x_2449), (4, .int x_2120), (3, .int x_2114), (2, .int x_2450), (0, .ref (o + 0)), (1, .int a1)] → W p l e ({ frames := 4, cells := 0, slots := 0, locals := 100 } : Room) s m args below meth c H locs 0 0 (MQ below (va_Qv (fun S' => CM o S' ∧ dg_sm shM [] [42, 43] S S' ∧ True) (dg_B g D shM o rfM) A) args s 0 0 A) (F0 m 94 ls []) := by
              intro n
              induction n with
              | zero =>
                intro x_2449 x_2450 b_x_2449 b_x_2450 hmu S_2451 I_2451 M_2451 srel_2451_0 srel_2451_1 H locs hP hS ls hl
                omega
              | succ n ih =>
                intro x_2449 x_2450 b_x_2449 b_x_2450 hmu S_2451 I_2451 M_2451 srel_2451_0 srel_2451_1 H locs hP hS ls hl
                refine lv_iload hx hb dX12_measures_94 (lv_at hl 0 rfl) ?_
                refine lv_iconst (v := 4) hx hb dX12_measures_96 (by decide +kernel) ?_
                refine lv_icmp_ge (tgt := 175) hx hb dX12_measures_97 (by decide) (fun c_2453 => ?_) (fun c_2453 => ?_)
                · have jc_2453 := dk_gec (k := 4) (by decide +kernel) c_2453
                  have hf_2453 := dk_full x_2449
                  exact J_2303 x_2449 x_2450 (by omega) (by omega) S_2451 I_2451 M_2451 srel_2451_0 _ _ hP hS _ (lv_sub hl [0, 1, 2, 3, 4, 5] rfl)
                · have jc_2453 := dk_ngec (k := 4) (by decide +kernel) c_2453
                  refine lv_aload_n hx hb dX12_measures_100 rfl (lv_at hl 4 rfl) ?_
                  refine lv_iload hx hb dX12_measures_101 (lv_at hl 1 rfl) ?_
                  refine lv_iload hx hb dX12_measures_103 (lv_at hl 0 rfl) ?_
                  obtain ⟨x_2455, f_x_2455, b_x_2455⟩ := dg_I.int (i := 0) (k := 47) (lo := 0) (hi := 1) I sM_0 (by decide +kernel)
                  obtain ⟨x_2456, f_x_2456⟩ : ∃ x, S_2451.2.1 2 (bk : Int32).toNatClampNeg = x := ⟨_, rfl⟩
                  have hin_2457 : vp_in (bk : Int32) 2 := (dk_inv (by omega) (by omega))
                  have b_x_2456 := dk_all_at (dg_I.row (lo := 0) (hi := 9999) I_2451 sM_2 (by decide +kernel)) hin_2457 f_x_2456.symm
                  have ex_2456 := f_x_2456.symm
                  have zb_x_2456 : (x_2456).toInt ≤ 7 ∧ ((x_2455 : Int32).toInt = 1 → 3 ≤ (x_2456).toInt) := by rw [ex_2456]; exact ⟨((ZBM.keep ZB M_2451 (by decide) (by decide) (by decide) (by decide) (by decide)) bk x_2455 ((M_2451.1 0 13 _ sM_0 (by decide)).trans f_bk) ((M_2451.1 0 47 _ sM_0 (by decide)).trans f_x_2455)).1, fun h9 => (((ZBM.keep ZB M_2451 (by decide) (by decide) (by decide) (by decide) (by decide)) bk x_2455 ((M_2451.1 0 13 _ sM_0 (by decide)).trans f_bk) ((M_2451.1 0 47 _ sM_0 (by decide)).trans f_x_2455)).2.2.2 h9).1⟩
                  obtain ⟨x_2458, f_x_2458⟩ : ∃ x, S_2451.2.1 3 (bk : Int32).toNatClampNeg = x := ⟨_, rfl⟩
                  have hin_2459 : vp_in (bk : Int32) 2 := (dk_inv (by omega) (by omega))
                  have b_x_2458 := dk_all_at (dg_I.row (lo := 0) (hi := 9999) I_2451 sM_3 (by decide +kernel)) hin_2459 f_x_2458.symm
                  have ex_2458 := f_x_2458.symm
                  have zb_x_2458 : (x_2458).toInt ≤ 7 ∧ ((x_2455 : Int32).toInt = 1 → 3 ≤ (x_2458).toInt) := by rw [ex_2458]; exact ⟨((ZBM.keep ZB M_2451 (by decide) (by decide) (by decide) (by decide) (by decide)) bk x_2455 ((M_2451.1 0 13 _ sM_0 (by decide)).trans f_bk) ((M_2451.1 0 47 _ sM_0 (by decide)).trans f_x_2455)).2.1, fun h9 => (((ZBM.keep ZB M_2451 (by decide) (by decide) (by decide) (by decide) (by decide)) bk x_2455 ((M_2451.1 0 13 _ sM_0 (by decide)).trans f_bk) ((M_2451.1 0 47 _ sM_0 (by decide)).trans f_x_2455)).2.2.2 h9).2⟩
                  refine dg_calli hS hA1 hA (va_runV (As := [.int x_2120, .int x_2449]) (rest := []) F (c_m_besideOf l g D o S_2451 x_2120 (by omega) x_2449 (by omega) bk ((M_2451.1 0 13 _ sM_0 (by decide)).trans f_bk) (by omega) x_2455 ((M_2451.1 0 47 _ sM_0 (by decide)).trans f_x_2455) (by omega) x_2456 f_x_2456 (by omega) x_2458 f_x_2458 (by omega) (ZBM.keep ZB M_2451 (by decide) (by decide) (by decide) (by decide) (by decide)) I_2451 H.size) (cwV 2 hts (bw_V wB_887 wB_888 wB_889 wB_857 wB_886) rfl rfl rfl (by decide +kernel) ⟨Nat.le_of_ble_eq_true rfl, Nat.le_of_ble_eq_true rfl⟩) (dg_preV sM_0 rfl K ST hP hS hA1 hA) rfl rfl hl.1 rfl (lv_room (Nat.le_of_ble_eq_true rfl)) dX12_measures_105 ⟨Nat.le_of_ble_eq_true rfl, Nat.le_of_ble_eq_true rfl⟩) (fun x_2460 S_2461 hw_2461 H locs hP hS => ?_)
                  rw [hw_2461.1] at hP
                  obtain ⟨hq_2461, w_2461_0, w_2461_1, -⟩ := hw_2461
                  have w_2461_0 : ((-1) ≤ (x_2460).toInt ∧ (x_2460).toInt ≤ 54) ∧ ((x_2460).toInt ≤ (-1) ∨ 0 ≤ (x_2460).toInt) := w_2461_0
                  have w_2461_1 : (x_2460).toInt ≠ -1 ↔ ((x_2455).toInt = 1 ∧ 0 ≤ (x_2120).toInt % 8 + dk_dC (x_2449).toInt ∧ (x_2120).toInt % 8 + dk_dC (x_2449).toInt < (x_2456).toInt ∧ 0 ≤ (x_2120).toInt / 8 + dk_dR (x_2449).toInt ∧ (x_2120).toInt / 8 + dk_dR (x_2449).toInt < (x_2458).toInt) := w_2461_1
                  refine lv_istore (lv' := [(6, .int x_2460), (5, .int x_2449), (4, .int x_2120), (3, .int x_2114), (2, .int x_2450), (0, .ref (o + 0)), (1, .int a1)]) hx hb dX12_measures_108 hl (by decide) rfl (fun ls hl => ?_)
                  refine lv_iload hx hb dX12_measures_110 (lv_at hl 0 rfl) ?_
                  refine lv_iconst (v := (-1)) hx hb dX12_measures_112 (by decide +kernel) ?_
                  refine lv_icmp_eq (tgt := 169) hx hb dX12_measures_113 (by decide) (fun c_2462 => ?_) (fun c_2462 => ?_)
                  · have jc_2462 := dk_eqc (k := (-1)) (by decide +kernel) c_2462
                    obtain ⟨x_2463, ex_2463⟩ : ∃ z, z = x_2449 + 1 := ⟨_, rfl⟩
                    have jx_2463 : (x_2463).toInt = (x_2449).toInt + 1 := by rw [ex_2463]; exact dk_addT rfl (by decide +kernel) (by omega) (by omega)
                    refine lv_iinc (v := x_2463) (lv' := [(5, .int x_2463), (6, .int x_2460), (4, .int x_2120), (3, .int x_2114), (2, .int x_2450), (0, .ref (o + 0)), (1, .int a1)]) hx hb dX12_measures_169 hl (k := 1) rfl (by rw [ex_2463]; rfl) (by decide) rfl (fun ls hl => ?_)
                    refine lv_goto (tgt := 94) hx hb dX12_measures_172 (by decide) ?_
                    exact ih x_2463 x_2450 (by omega) (by omega) (by omega) S_2451 I_2451 M_2451 srel_2451_0 srel_2451_1 _ _ hP hS _ (lv_sub hl [0, 2, 3, 4, 5, 6] rfl)
                  · have jc_2462 := dk_neqc (k := (-1)) (by decide +kernel) c_2462
                    refine lv_aload_n hx hb dX12_measures_116 rfl (lv_at hl 5 rfl) ?_
                    refine lv_iload_n hx hb dX12_measures_117 rfl (lv_at hl 6 rfl) ?_
                    refine lv_iload hx hb dX12_measures_118 (lv_at hl 0 rfl) ?_
                    refine dg_calli hS hA1 hA (va_runV (As := [.int a1, .int x_2460]) (rest := []) F (c_m_isOpen l g D o S_2451 a1 (by omega) x_2460 (by omega) I_2451 H.size) (cwV 2 hts (bw_V wB_880 wB_881 wB_882 wB_857 wB_879) rfl rfl rfl (by decide +kernel) ⟨Nat.le_of_ble_eq_true rfl, Nat.le_of_ble_eq_true rfl⟩) (dg_preV sM_0 rfl K ST hP hS hA1 hA) rfl rfl hl.1 rfl (lv_room (Nat.le_of_ble_eq_true rfl)) dX12_measures_120 ⟨Nat.le_of_ble_eq_true rfl, Nat.le_of_ble_eq_true rfl⟩) (fun x_2464 S_2465 hw_2465 H locs hP hS => ?_)
                    rw [hw_2465.1] at hP
                    obtain ⟨hq_2465, w_2465_0, -⟩ := hw_2465
                    have w_2465_0 : 0 ≤ (x_2464).toInt ∧ (x_2464).toInt ≤ 1 := w_2465_0
                    refine lv_if_eq (tgt := 169) hx hb dX12_measures_123 (by decide) (fun c_2466 => ?_) (fun c_2466 => ?_)
                    · have jc_2466 := dk_eqc (k := 0) (by decide +kernel) c_2466
                      obtain ⟨x_2467, ex_2467⟩ : ∃ z, z = x_2449 + 1 := ⟨_, rfl⟩
                      have jx_2467 : (x_2467).toInt = (x_2449).toInt + 1 := by rw [ex_2467]; exact dk_addT rfl (by decide +kernel) (by omega) (by omega)
                      refine lv_iinc (v := x_2467) (lv' := [(5, .int x_2467), (6, .int x_2460), (4, .int x_2120), (3, .int x_2114), (2, .int x_2450), (0, .ref (o + 0)), (1, .int a1)]) hx hb dX12_measures_169 hl (k := 1) rfl (by rw [ex_2467]; rfl) (by decide) rfl (fun ls hl => ?_)
                      refine lv_goto (tgt := 94) hx hb dX12_measures_172 (by decide) ?_
                      exact ih x_2467 x_2450 (by omega) (by omega) (by omega) S_2451 I_2451 M_2451 srel_2451_0 srel_2451_1 _ _ hP hS _ (lv_sub hl [0, 2, 3, 4, 5, 6] rfl)
                    · have jc_2466 := dk_neqc (k := 0) (by decide +kernel) c_2466
                      refine lv_aload_n hx hb dX12_measures_126 rfl (lv_at hl 5 rfl) ?_
                      refine dg_get (C := RX12) (T := TX12) (N := 77) hx hb hts (fun w h => bw_mem (wU_X12 w h)) hown K hP sM_0 rfl 66 (by decide) (hts _ (bw_mem wB_883)) (fun _ h9 => h9) (v := .ref (o + 42)) (show S_2451.1 0 66 = .ref (o + 42) from dg_I.rel (d := 42) I_2451 sM_0 (by decide +kernel)) dX12_measures_127 ?_
                      refine lv_iload hx hb dX12_measures_130 (lv_at hl 0 rfl) ?_
                      have hin_2468 : vp_in x_2460 64 := (dk_inv (by omega) (by omega))
                      refine dg_iald hx hb K hP sM_42 hin_2468 dX12_measures_132 (fun x_2469 ex_2469 => ?_)
                      refine lv_ldcw hx hb hown (hts _ (bw_mem wB_890)) dX12_measures_133 ?_
                      refine lv_icmp_ge (tgt := 142) hx hb dX12_measures_136 (by decide) (fun c_2470 => ?_) (fun c_2470 => ?_)
                      · have jc_2470 := dk_gec (k := 100000000) (by decide +kernel) c_2470
                        refine lv_aload_n hx hb dX12_measures_142 rfl (lv_at hl 5 rfl) ?_
                        refine dg_get (C := RX12) (T := TX12) (N := 77) hx hb hts (fun w h => bw_mem (wU_X12 w h)) hown K hP sM_0 rfl 66 (by decide) (hts _ (bw_mem wB_883)) (fun _ h9 => h9) (v := .ref (o + 42)) (show S_2451.1 0 66 = .ref (o + 42) from dg_I.rel (d := 42) I_2451 sM_0 (by decide +kernel)) dX12_measures_143 ?_
                        refine lv_iload hx hb dX12_measures_146 (lv_at hl 0 rfl) ?_
                        refine lv_aload_n hx hb dX12_measures_148 rfl (lv_at hl 5 rfl) ?_
                        refine dg_get (C := RX12) (T := TX12) (N := 77) hx hb hts (fun w h => bw_mem (wU_X12 w h)) hown K hP sM_0 rfl 66 (by decide) (hts _ (bw_mem wB_883)) (fun _ h9 => h9) (v := .ref (o + 42)) (show S_2451.1 0 66 = .ref (o + 42) from dg_I.rel (d := 42) I_2451 sM_0 (by decide +kernel)) dX12_measures_149 ?_
                        refine lv_iload hx hb dX12_measures_152 (lv_at hl 2 rfl) ?_
                        have hin_2471 : vp_in x_2120 64 := (dk_inv (by omega) (by omega))
                        refine dg_iald hx hb K hP sM_42 hin_2471 dX12_measures_154 (fun x_2472 ex_2472 => ?_)
                        have hb_x_2472 : 0 ≤ (x_2472).toInt ∧ (x_2472).toInt ≤ 64 := by have h9 := srel_2451_0.1 _ (dk_inT hin_2471).2; rw [← ex_2472] at h9; have h8 := srel_2451_1; rw [← ex_2472] at h8; omega
                        refine lv_iconst (v := 1) hx hb dX12_measures_155 (by decide +kernel) ?_
                        refine lv_iadd hx hb dX12_measures_156 ?_
                        refine lv_topi (fun x_2473 ex_2473 => ?_)
                        have jx_2473 : (x_2473).toInt = (x_2472).toInt + 1 := by rw [ex_2473]; exact dk_addT rfl (by decide +kernel) (by omega) (by omega)
                        have hin_2474 : vp_in x_2460 64 := (dk_inv (by omega) (by omega))
                        refine dg_iast hx hb K hP hS hA1 sM_42 hin_2474 dX12_measures_157 (fun S_2475 e_2475 H locs hP hS => ?_)
                        have I_2475 := dg_I.uf0 I_2451 e_2475 sM_42 (by decide +kernel)
                        have M_2475 := dg_sm.uf M_2451 e_2475 sM_42 (by decide)
                        refine lv_aload_n hx hb dX12_measures_158 rfl (lv_at hl 5 rfl) ?_
                        refine dg_get (C := RX12) (T := TX12) (N := 77) hx hb hts (fun w h => bw_mem (wU_X12 w h)) hown K hP sM_0 rfl 67 (by decide) (hts _ (bw_mem wB_931)) (fun _ h9 => h9) (v := .ref (o + 43)) (show S_2475.1 0 67 = .ref (o + 43) from dg_I.rel (d := 43) I_2475 sM_0 (by decide +kernel)) dX12_measures_159 ?_
                        refine lv_iload_n hx hb dX12_measures_162 rfl (lv_at hl 4 rfl) ?_
                        refine lv_iload hx hb dX12_measures_163 (lv_at hl 0 rfl) ?_
                        have hin_2476 : vp_in x_2450 64 := (dk_inv (by omega) (by omega))
                        refine dg_iast hx hb K hP hS hA1 sM_43 hin_2476 dX12_measures_165 (fun S_2477 e_2477 H locs hP hS => ?_)
                        have I_2477 := dg_I.ufu (lo := 0) (hi := 63) I_2475 e_2477 sM_43 (by decide +kernel) (show 0 ≤ (x_2460).toInt ∧ (x_2460).toInt ≤ 63 from (by omega))
                        have M_2477 := dg_sm.uf M_2475 e_2477 sM_43 (by decide)
                        have zq_2477 := ZQM.push srel_2451_0 hin_2474 hin_2471 hin_2476 ex_2469 (by omega) ex_2472 (by rw [ex_2472]; exact srel_2451_1) (by omega) e_2475 e_2477
                        have zc_2477 := ZQM.cf (z := x_2460) srel_2451_1 (show (x_2473).toInt ≠ 100000000 by omega) e_2475 e_2477
                        obtain ⟨x_2478, ex_2478⟩ : ∃ z, z = x_2450 + 1 := ⟨_, rfl⟩
                        have jx_2478 : (x_2478).toInt = (x_2450).toInt + 1 := by rw [ex_2478]; exact dk_addT rfl (by decide +kernel) (by omega) (by omega)
                        refine lv_iinc (v := x_2478) (lv' := [(2, .int x_2478), (6, .int x_2460), (5, .int x_2449), (4, .int x_2120), (3, .int x_2114), (0, .ref (o + 0)), (1, .int a1)]) hx hb dX12_measures_166 hl (k := 4) rfl (by rw [ex_2478]; rfl) (by decide) rfl (fun ls hl => ?_)
                        obtain ⟨x_2479, ex_2479⟩ : ∃ z, z = x_2449 + 1 := ⟨_, rfl⟩
                        have jx_2479 : (x_2479).toInt = (x_2449).toInt + 1 := by rw [ex_2479]; exact dk_addT rfl (by decide +kernel) (by omega) (by omega)
                        refine lv_iinc (v := x_2479) (lv' := [(5, .int x_2479), (2, .int x_2478), (6, .int x_2460), (4, .int x_2120), (3, .int x_2114), (0, .ref (o + 0)), (1, .int a1)]) hx hb dX12_measures_169 hl (k := 2) rfl (by rw [ex_2479]; rfl) (by decide) rfl (fun ls hl => ?_)
                        refine lv_goto (tgt := 94) hx hb dX12_measures_172 (by decide) ?_
                        exact ih x_2479 x_2478 (by omega) (by omega) (by omega) S_2477 I_2477 M_2477 (by have h9 := zq_2477; rw [show (x_2450).toInt + 1 = (x_2478 : Int32).toInt from by omega] at h9; exact h9) zc_2477 _ _ hP hS _ (lv_sub hl [0, 3, 4, 1, 5, 6] rfl)
                      · have jc_2470 := dk_ngec (k := 100000000) (by decide +kernel) c_2470
                        refine lv_goto (tgt := 169) hx hb dX12_measures_139 (by decide) ?_
                        obtain ⟨x_2480, ex_2480⟩ : ∃ z, z = x_2449 + 1 := ⟨_, rfl⟩
                        have jx_2480 : (x_2480).toInt = (x_2449).toInt + 1 := by rw [ex_2480]; exact dk_addT rfl (by decide +kernel) (by omega) (by omega)
                        refine lv_iinc (v := x_2480) (lv' := [(5, .int x_2480), (6, .int x_2460), (4, .int x_2120), (3, .int x_2114), (2, .int x_2450), (0, .ref (o + 0)), (1, .int a1)]) hx hb dX12_measures_169 hl (k := 1) rfl (by rw [ex_2480]; rfl) (by decide) rfl (fun ls hl => ?_)
                        refine lv_goto (tgt := 94) hx hb dX12_measures_172 (by decide) ?_
                        exact ih x_2480 x_2450 (by omega) (by omega) (by omega) S_2451 I_2451 M_2451 srel_2451_0 srel_2451_1 _ _ hP hS _ (lv_sub hl [0, 2, 3, 4, 5, 6] rfl)
            have hz_2481 : (0 : Int32).toInt = 0 := by decide +kernel
            have hz_2482 : (0 : Int32).toInt = 0 := by decide +kernel
            exact L_2452 ((5 - ((0 : Int32)).toInt).toNat + 1) 0 x_2115 (by decide +kernel) (by omega) (by omega) S_2116 I_2116 M_2116 srel_2116_0 qf_x_2120 _ _ hP hS _ (lv_sub hl [0, 1, 2, 3, 4, 5] rfl)
          · have jc_2125 := dk_eqc (k := 1) (by decide +kernel) c_2125
            refine lv_goto (tgt := 175) hx hb dX12_measures_88 (by decide) ?_
            obtain ⟨x_2483, ex_2483⟩ : ∃ z, z = x_2114 + 1 := ⟨_, rfl⟩
            have jx_2483 : (x_2483).toInt = (x_2114).toInt + 1 := by rw [ex_2483]; exact dk_addT rfl (by decide +kernel) (by omega) (by omega)
            refine lv_iinc (v := x_2483) (lv' := [(3, .int x_2483), (4, .int x_2120), (2, .int x_2115), (0, .ref (o + 0)), (1, .int a1)]) hx hb dX12_measures_175 hl (k := 1) rfl (by rw [ex_2483]; rfl) (by decide) rfl (fun ls hl => ?_)
            refine lv_goto (tgt := 59) hx hb dX12_measures_178 (by decide) ?_
            exact ih x_2483 x_2115 (by omega) (by omega) (by omega) S_2116 I_2116 M_2116 srel_2116_0 _ _ hP hS _ (lv_sub hl [0, 2, 3, 4] rfl)
    have hz_2484 : (0 : Int32).toInt = 0 := by decide +kernel
    have hz_2485 : (1 : Int32).toInt = 1 := by decide +kernel
    have hz_2486 : (0 : Int32).toInt = 0 := by decide +kernel
    have hz_2487 : (1 : Int32).toInt = 1 := by decide +kernel
    exact L_2117 ((65 - ((0 : Int32)).toInt).toNat + 1) 0 1 (by decide +kernel) (by decide +kernel) (by omega) S_1176 I_1176 M_1176 (by rw [show (1 : Int32).toInt = 1 from by decide +kernel]; exact ZQM.first srel_1171_0 (by omega) (by decide +kernel) e_1176) _ _ hP hS _ (lv_sub hl [0, 1, 2, 3] rfl)
  have L_2515 : ∀ (n : Nat) (x_2513 : Int32), (0 ≤ (x_2513).toInt ∧ (x_2513).toInt ≤ 64) → ((65 - (x_2513).toInt).toNat < n) → ∀ S_2514 : dg_S, CM o S_2514 → dg_sm shM [] [42, 43] S S_2514 → (ZF0 S_2514 (sh).toInt (x_2513 : Int32).toInt) → ∀ (H : Heap) (locs : List Loc), va_P D vwCl (dg_w g shM o rfM S_2514) H → va_S A s.heap H locs → ∀ ls : Array Slot, lv_has ls 7 [(2, .int x_2513), (0, .ref (o + 0)), (1, .int a1)] → W p l e ({ frames := 4, cells := 0, slots := 0, locals := 100 } : Room) s m args below meth c H locs 0 0 (MQ below (va_Qv (fun S' => CM o S' ∧ dg_sm shM [] [42, 43] S S' ∧ True) (dg_B g D shM o rfM) A) args s 0 0 A) (F0 m 2 ls []) := by
    intro n
    induction n with
    | zero =>
      intro x_2513 b_x_2513 hmu S_2514 I_2514 M_2514 srel_2514_0 H locs hP hS ls hl
      omega
    | succ n ih =>
      intro x_2513 b_x_2513 hmu S_2514 I_2514 M_2514 srel_2514_0 H locs hP hS ls hl
      refine lv_iload_n hx hb dX12_measures_2 rfl (lv_at hl 0 rfl) ?_
      refine lv_bipush (v := 64) hx hb dX12_measures_3 (by decide +kernel) ?_
      refine lv_icmp_ge (tgt := 40) hx hb dX12_measures_5 (by decide) (fun c_2516 => ?_) (fun c_2516 => ?_)
      · have jc_2516 := dk_gec (k := 64) (by decide +kernel) c_2516
        exact J_1172 x_2513 (by omega) S_2514 I_2514 M_2514 (by have h9 := srel_2514_0; rw [show (x_2513 : Int32).toInt = 64 from by omega] at h9; exact h9) _ _ hP hS _ (lv_sub hl [0, 1, 2] rfl)
      · have jc_2516 := dk_ngec (k := 64) (by decide +kernel) c_2516
        refine lv_aload_n hx hb dX12_measures_8 rfl (lv_at hl 1 rfl) ?_
        refine dg_get (C := RX12) (T := TX12) (N := 77) hx hb hts (fun w h => bw_mem (wU_X12 w h)) hown K hP sM_0 rfl 66 (by decide) (hts _ (bw_mem wB_883)) (fun _ h9 => h9) (v := .ref (o + 42)) (show S_2514.1 0 66 = .ref (o + 42) from dg_I.rel (d := 42) I_2514 sM_0 (by decide +kernel)) dX12_measures_9 ?_
        refine lv_iload_n hx hb dX12_measures_12 rfl (lv_at hl 0 rfl) ?_
        refine lv_iload_n hx hb dX12_measures_13 rfl (lv_at hl 0 rfl) ?_
        refine lv_aload_n hx hb dX12_measures_14 rfl (lv_at hl 1 rfl) ?_
        refine dg_get (C := RX12) (T := TX12) (N := 77) hx hb hts (fun w h => bw_mem (wU_X12 w h)) hown K hP sM_0 rfl 16 (by decide) (hts _ (bw_mem wB_917)) (fun _ h9 => h9) (v := .ref (o + 4)) (show S_2514.1 0 16 = .ref (o + 4) from dg_I.rel (d := 4) I_2514 sM_0 (by decide +kernel)) dX12_measures_15 ?_
        refine lv_aload_n hx hb dX12_measures_18 rfl (lv_at hl 1 rfl) ?_
        refine dg_get (C := RX12) (T := TX12) (N := 77) hx hb hts (fun w h => bw_mem (wU_X12 w h)) hown K hP sM_0 rfl 13 (by decide) (hts _ (bw_mem wB_869)) (fun _ h9 => h9) (v := .int bk) ((M_2514.1 0 13 _ sM_0 (by decide)).trans f_bk) dX12_measures_19 ?_
        have hin_2517 : vp_in bk 2 := (dk_inv (by omega) (by omega))
        refine dg_iald hx hb K hP sM_4 hin_2517 dX12_measures_22 (fun y_2518 ey_2518 => ?_)
        obtain rfl : sh = y_2518 := ((ey_2518.trans (congrFun (M_2514.2 4 _ sM_4 (by decide)).1 _)).trans f_sh).symm
        refine lv_icmp_ne (tgt := 30) hx hb dX12_measures_23 (by decide) (fun c_2519 => ?_) (fun c_2519 => ?_)
        · have jc_2519 := dk_neqc (k := (sh).toInt) rfl c_2519
          refine lv_ldcw hx hb hown (hts _ (bw_mem wB_890)) dX12_measures_30 ?_
          have hin_2520 : vp_in x_2513 64 := (dk_inv (by omega) (by omega))
          have hz_2522 : (100000000 : Int32).toInt = 100000000 := by decide +kernel
          refine dg_iast hx hb K hP hS hA1 sM_42 hin_2520 dX12_measures_33 (fun S_2521 e_2521 H locs hP hS => ?_)
          have I_2521 := dg_I.uf0 I_2514 e_2521 sM_42 (by decide +kernel)
          have M_2521 := dg_sm.uf M_2514 e_2521 sM_42 (by decide)
          obtain ⟨x_2523, ex_2523⟩ : ∃ z, z = x_2513 + 1 := ⟨_, rfl⟩
          have jx_2523 : (x_2523).toInt = (x_2513).toInt + 1 := by rw [ex_2523]; exact dk_addT rfl (by decide +kernel) (by omega) (by omega)
          refine lv_iinc (v := x_2523) (lv' := [(2, .int x_2523), (0, .ref (o + 0)), (1, .int a1)]) hx hb dX12_measures_34 hl (k := 0) rfl (by rw [ex_2523]; rfl) (by decide) rfl (fun ls hl => ?_)
          refine lv_goto (tgt := 2) hx hb dX12_measures_37 (by decide) ?_
          exact ih x_2523 (by omega) (by omega) S_2521 I_2521 M_2521 (ZF0.step srel_2514_0 hin_2520 e_2521 (by omega) (by omega) (by omega)) _ _ hP hS _ (lv_sub hl [0, 1, 2] rfl)
        · have jc_2519 := dk_eqc (k := (sh).toInt) rfl c_2519
          refine lv_iconst (v := 0) hx hb dX12_measures_26 (by decide +kernel) ?_
          refine lv_goto (tgt := 33) hx hb dX12_measures_27 (by decide) ?_
          have hin_2524 : vp_in x_2513 64 := (dk_inv (by omega) (by omega))
          have hz_2526 : (0 : Int32).toInt = 0 := by decide +kernel
          refine dg_iast hx hb K hP hS hA1 sM_42 hin_2524 dX12_measures_33 (fun S_2525 e_2525 H locs hP hS => ?_)
          have I_2525 := dg_I.uf0 I_2514 e_2525 sM_42 (by decide +kernel)
          have M_2525 := dg_sm.uf M_2514 e_2525 sM_42 (by decide)
          obtain ⟨x_2527, ex_2527⟩ : ∃ z, z = x_2513 + 1 := ⟨_, rfl⟩
          have jx_2527 : (x_2527).toInt = (x_2513).toInt + 1 := by rw [ex_2527]; exact dk_addT rfl (by decide +kernel) (by omega) (by omega)
          refine lv_iinc (v := x_2527) (lv' := [(2, .int x_2527), (0, .ref (o + 0)), (1, .int a1)]) hx hb dX12_measures_34 hl (k := 0) rfl (by rw [ex_2527]; rfl) (by decide) rfl (fun ls hl => ?_)
          refine lv_goto (tgt := 2) hx hb dX12_measures_37 (by decide) ?_
          exact ih x_2527 (by omega) (by omega) S_2525 I_2525 M_2525 (ZF0.step srel_2514_0 hin_2524 e_2525 (by omega) (by omega) (by omega)) _ _ hP hS _ (lv_sub hl [0, 1, 2] rfl)
  have hz_2528 : (0 : Int32).toInt = 0 := by decide +kernel
  have hz_2529 : (0 : Int32).toInt = 0 := by decide +kernel
  exact L_2515 ((65 - ((0 : Int32)).toInt).toNat + 1) 0 (by decide +kernel) (by omega) S I M_0 (fun j hj => absurd hj (by omega)) _ _ hP hS _ (lv_sub hl [0, 1, 2] rfl)
