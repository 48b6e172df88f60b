/-! 20.str -/
def RJ0 : String := "java/lang/String"
abbrev cJ0_charAt_5068e : ByteArray := prog_17_method_56_code
def yJ0_charAt_5068e : MethodName := ⟨RJ0, "charAt", "(I)C"⟩
abbrev cJ0_isLatin1_aae02 : ByteArray := prog_17_method_154_code
def yJ0_isLatin1_aae02 : MethodName := ⟨RJ0, "isLatin1", "()Z"⟩
abbrev cJ0_checkIndex_df160 : ByteArray := prog_17_method_155_code
def yJ0_checkIndex_df160 : MethodName := ⟨RJ0, "checkIndex", "(II)V"⟩
def RJ1 : String := "java/lang/StringLatin1"
abbrev cJ1_charAt_3b067 : ByteArray := prog_18_method_2_code
def yJ1_charAt_3b067 : MethodName := ⟨RJ1, "charAt", "([BI)C"⟩
def RJ3 : String := "jdk/internal/util/Preconditions"
abbrev cJ3_checkIndex_8e157 : ByteArray := prog_22_method_11_code
def yJ3_checkIndex_8e157 : MethodName := ⟨RJ3, "checkIndex", "(IILjava/util/function/BiFunction;)I"⟩
theorem dJ0_charAt_5068e_0 : decode cJ0_charAt_5068e 0 = .ok (.aload_n 0, 1) := by decide +kernel
theorem dJ0_charAt_5068e_1 : decode cJ0_charAt_5068e 1 = .ok (.invokevirtual 492, 3) := by decide +kernel
theorem dJ0_charAt_5068e_4 : decode cJ0_charAt_5068e 4 = .ok (.ifCond .eq 12, 3) := by decide +kernel
theorem dJ0_charAt_5068e_7 : decode cJ0_charAt_5068e 7 = .ok (.aload_n 0, 1) := by decide +kernel
theorem dJ0_charAt_5068e_8 : decode cJ0_charAt_5068e 8 = .ok (.getfield 9, 3) := by decide +kernel
theorem dJ0_charAt_5068e_11 : decode cJ0_charAt_5068e 11 = .ok (.iload_n 1, 1) := by decide +kernel
theorem dJ0_charAt_5068e_12 : decode cJ0_charAt_5068e 12 = .ok (.invokestatic 495, 3) := by decide +kernel
theorem dJ0_charAt_5068e_15 : decode cJ0_charAt_5068e 15 = .ok (.ireturn, 1) := by decide +kernel
theorem dJ0_isLatin1_aae02_0 : decode cJ0_isLatin1_aae02 0 = .ok (.getstatic 38, 3) := by decide +kernel
theorem dJ0_isLatin1_aae02_3 : decode cJ0_isLatin1_aae02 3 = .ok (.ifCond .eq 14, 3) := by decide +kernel
theorem dJ0_isLatin1_aae02_6 : decode cJ0_isLatin1_aae02 6 = .ok (.aload_n 0, 1) := by decide +kernel
theorem dJ0_isLatin1_aae02_7 : decode cJ0_isLatin1_aae02 7 = .ok (.getfield 15, 3) := by decide +kernel
theorem dJ0_isLatin1_aae02_10 : decode cJ0_isLatin1_aae02 10 = .ok (.ifCond .ne 7, 3) := by decide +kernel
theorem dJ0_isLatin1_aae02_13 : decode cJ0_isLatin1_aae02 13 = .ok (.iconst 1, 1) := by decide +kernel
theorem dJ0_isLatin1_aae02_14 : decode cJ0_isLatin1_aae02 14 = .ok (.goto 4, 3) := by decide +kernel
theorem dJ0_isLatin1_aae02_18 : decode cJ0_isLatin1_aae02 18 = .ok (.ireturn, 1) := by decide +kernel
theorem dJ0_checkIndex_df160_0 : decode cJ0_checkIndex_df160 0 = .ok (.iload_n 0, 1) := by decide +kernel
theorem dJ0_checkIndex_df160_1 : decode cJ0_checkIndex_df160 1 = .ok (.iload_n 1, 1) := by decide +kernel
theorem dJ0_checkIndex_df160_2 : decode cJ0_checkIndex_df160 2 = .ok (.getstatic 1053, 3) := by decide +kernel
theorem dJ0_checkIndex_df160_5 : decode cJ0_checkIndex_df160 5 = .ok (.invokestatic 1059, 3) := by decide +kernel
theorem dJ0_checkIndex_df160_8 : decode cJ0_checkIndex_df160 8 = .ok (.pop, 1) := by decide +kernel
theorem dJ0_checkIndex_df160_9 : decode cJ0_checkIndex_df160 9 = .ok (.return_, 1) := by decide +kernel
theorem dJ1_charAt_3b067_0 : decode cJ1_charAt_3b067 0 = .ok (.iload_n 1, 1) := by decide +kernel
theorem dJ1_charAt_3b067_1 : decode cJ1_charAt_3b067 1 = .ok (.aload_n 0, 1) := by decide +kernel
theorem dJ1_charAt_3b067_2 : decode cJ1_charAt_3b067 2 = .ok (.arraylength, 1) := by decide +kernel
theorem dJ1_charAt_3b067_3 : decode cJ1_charAt_3b067 3 = .ok (.invokestatic 9, 3) := by decide +kernel
theorem dJ1_charAt_3b067_6 : decode cJ1_charAt_3b067 6 = .ok (.aload_n 0, 1) := by decide +kernel
theorem dJ1_charAt_3b067_7 : decode cJ1_charAt_3b067 7 = .ok (.iload_n 1, 1) := by decide +kernel
theorem dJ1_charAt_3b067_8 : decode cJ1_charAt_3b067 8 = .ok (.baload, 1) := by decide +kernel
theorem dJ1_charAt_3b067_9 : decode cJ1_charAt_3b067 9 = .ok (.sipush 255, 3) := by decide +kernel
theorem dJ1_charAt_3b067_12 : decode cJ1_charAt_3b067 12 = .ok (.iand, 1) := by decide +kernel
theorem dJ1_charAt_3b067_13 : decode cJ1_charAt_3b067 13 = .ok (.i2c, 1) := by decide +kernel
theorem dJ1_charAt_3b067_14 : decode cJ1_charAt_3b067 14 = .ok (.ireturn, 1) := by decide +kernel
theorem dJ3_checkIndex_8e157_0 : decode cJ3_checkIndex_8e157 0 = .ok (.iload_n 0, 1) := by decide +kernel
theorem dJ3_checkIndex_8e157_1 : decode cJ3_checkIndex_8e157 1 = .ok (.ifCond .lt 8, 3) := by decide +kernel
theorem dJ3_checkIndex_8e157_4 : decode cJ3_checkIndex_8e157 4 = .ok (.iload_n 0, 1) := by decide +kernel
theorem dJ3_checkIndex_8e157_5 : decode cJ3_checkIndex_8e157 5 = .ok (.iload_n 1, 1) := by decide +kernel
theorem dJ3_checkIndex_8e157_6 : decode cJ3_checkIndex_8e157 6 = .ok (.if_icmp .lt 10, 3) := by decide +kernel
theorem dJ3_checkIndex_8e157_16 : decode cJ3_checkIndex_8e157 16 = .ok (.iload_n 0, 1) := by decide +kernel
theorem dJ3_checkIndex_8e157_17 : decode cJ3_checkIndex_8e157 17 = .ok (.ireturn, 1) := by decide +kernel
theorem wB_155 : Cond.fieldLink RJ0 1053 "jdk/internal/util/Preconditions" "SIOOBE_FORMATTER" "Ljava/util/function/BiFunction;" ∈ dgB := List.mem_filter.mpr ⟨tbl_3 _ (List.mem_of_getElem? (i := 160) (by decide +kernel)), by decide +kernel⟩
theorem wB_156 : Cond.code yJ3_checkIndex_8e157 cJ3_checkIndex_8e157 3 (some .int) ∈ dgB := List.mem_filter.mpr ⟨tbl_3 _ (List.mem_of_getElem? (i := 164) rfl), rfl⟩
theorem wB_157 : Cond.methodLink RJ0 1059 yJ3_checkIndex_8e157 ∈ dgB := List.mem_filter.mpr ⟨tbl_3 _ (List.mem_of_getElem? (i := 162) (by decide +kernel)), by decide +kernel⟩
theorem wB_158 : Cond.static yJ3_checkIndex_8e157 ∈ dgB := List.mem_filter.mpr ⟨tbl_3 _ (List.mem_of_getElem? (i := 163) (by decide +kernel)), by decide +kernel⟩
theorem wB_159 : Cond.initialized RJ3 ∈ dgB := List.mem_filter.mpr ⟨tbl_1 _ (List.mem_of_getElem? (i := 18) (by decide +kernel)), by decide +kernel⟩
theorem wB_160 : Cond.code yJ0_checkIndex_df160 cJ0_checkIndex_df160 2 none ∈ dgB := List.mem_filter.mpr ⟨tbl_3 _ (List.mem_of_getElem? (i := 159) rfl), rfl⟩
theorem wB_161 : Cond.methodLink RJ1 9 yJ0_checkIndex_df160 ∈ dgB := List.mem_filter.mpr ⟨tbl_3 _ (List.mem_of_getElem? (i := 157) (by decide +kernel)), by decide +kernel⟩
theorem wB_162 : Cond.static yJ0_checkIndex_df160 ∈ dgB := List.mem_filter.mpr ⟨tbl_3 _ (List.mem_of_getElem? (i := 158) (by decide +kernel)), by decide +kernel⟩
theorem wB_163 : Cond.initialized RJ0 ∈ dgB := List.mem_filter.mpr ⟨tbl_1 _ (List.mem_of_getElem? (i := 16) (by decide +kernel)), by decide +kernel⟩
theorem wB_164 : Cond.fieldLink RJ0 38 "java/lang/String" "COMPACT_STRINGS" "Z" ∈ dgB := List.mem_filter.mpr ⟨tbl_3 _ (List.mem_of_getElem? (i := 152) (by decide +kernel)), by decide +kernel⟩
theorem wB_165 : Cond.fieldLink RJ0 15 "java/lang/String" "coder" "B" ∈ dgB := List.mem_filter.mpr ⟨tbl_9 _ (List.mem_of_getElem? (i := 183) (by decide +kernel)), by decide +kernel⟩
theorem wB_166 : Cond.methodLink RJ0 492 yJ0_isLatin1_aae02 ∈ dgB := List.mem_filter.mpr ⟨tbl_3 _ (List.mem_of_getElem? (i := 148) (by decide +kernel)), by decide +kernel⟩
theorem wB_167 : Cond.instanceMethod yJ0_isLatin1_aae02 ∈ dgB := List.mem_filter.mpr ⟨tbl_3 _ (List.mem_of_getElem? (i := 149) (by decide +kernel)), by decide +kernel⟩
theorem wB_168 : Cond.selects RJ0 yJ0_isLatin1_aae02 yJ0_isLatin1_aae02 ∈ dgB := List.mem_filter.mpr ⟨tbl_3 _ (List.mem_of_getElem? (i := 150) (by decide +kernel)), by decide +kernel⟩
theorem wB_169 : Cond.code yJ0_isLatin1_aae02 cJ0_isLatin1_aae02 1 (some .boolean) ∈ dgB := List.mem_filter.mpr ⟨tbl_3 _ (List.mem_of_getElem? (i := 151) rfl), rfl⟩
theorem wB_170 : Cond.fieldLink RJ0 9 "java/lang/String" "value" "[B" ∈ dgB := List.mem_filter.mpr ⟨tbl_9 _ (List.mem_of_getElem? (i := 184) (by decide +kernel)), by decide +kernel⟩
theorem wB_171 : Cond.code yJ1_charAt_3b067 cJ1_charAt_3b067 2 (some .char) ∈ dgB := List.mem_filter.mpr ⟨tbl_3 _ (List.mem_of_getElem? (i := 156) rfl), rfl⟩
theorem wB_172 : Cond.methodLink RJ0 495 yJ1_charAt_3b067 ∈ dgB := List.mem_filter.mpr ⟨tbl_3 _ (List.mem_of_getElem? (i := 154) (by decide +kernel)), by decide +kernel⟩
theorem wB_173 : Cond.static yJ1_charAt_3b067 ∈ dgB := List.mem_filter.mpr ⟨tbl_3 _ (List.mem_of_getElem? (i := 155) (by decide +kernel)), by decide +kernel⟩
theorem wB_174 : Cond.initialized RJ1 ∈ dgB := List.mem_filter.mpr ⟨tbl_1 _ (List.mem_of_getElem? (i := 17) (by decide +kernel)), by decide +kernel⟩
theorem wB_175 : Cond.methodLink RX9 67 yJ0_charAt_5068e ∈ dgB := List.mem_filter.mpr ⟨tbl_3 _ (List.mem_of_getElem? (i := 144) (by decide +kernel)), by decide +kernel⟩
theorem wB_176 : Cond.instanceMethod yJ0_charAt_5068e ∈ dgB := List.mem_filter.mpr ⟨tbl_3 _ (List.mem_of_getElem? (i := 145) (by decide +kernel)), by decide +kernel⟩
theorem wB_177 : Cond.selects RJ0 yJ0_charAt_5068e yJ0_charAt_5068e ∈ dgB := List.mem_filter.mpr ⟨tbl_3 _ (List.mem_of_getElem? (i := 146) (by decide +kernel)), by decide +kernel⟩
theorem wB_178 : Cond.code yJ0_charAt_5068e cJ0_charAt_5068e 2 (some .char) ∈ dgB := List.mem_filter.mpr ⟨tbl_3 _ (List.mem_of_getElem? (i := 147) rfl), rfl⟩
/-! the constant text of the OWN WORDS -/
section DGST0
variable {p : Program} {l : Launch} {e : Env} {R : Room} {s : State} {m : MethodId} {args : Array Value} {below : List Frame} {meth : Method} {c : Code} {H : Heap} {locs : List Loc} {cells slots : Nat} {Q : State → Prop}
variable {cc : ByteArray} {pc : Nat} {ls : Array Slot} {rest : List Value} {D : va_G} {A : Nat → Prop} {H0 : Heap} {g : Nat → ClassId} {sh : List dg_q} {o : Nat} {rf : dg_R} {S : dg_S}
abbrev dk_sS (a v : Nat) (A : Nat → Prop) (U : State) (H : Heap) : Prop := vk_S 1 [162] [dk_by] (fun _ => a) (fun _ => v) A U H
def dk_Pcs (g : Nat → ClassId) (D : va_G) (W : va_W) (sz a v : Nat) (av : List Value) : Array Value → State → Prop := va_Pc av (fun U => (U.heap.size = sz ∧ va_P D vwCl W U.heap ∧ dk_K g D U ∧ va_D (fun _ => True) W ∧ dk_ST (va_A W sz) U U.heap) ∧ dk_sS a v (va_A W sz) U U.heap)
theorem dk_blinds {W : va_W} {sz a v : Nat} {av : List Value} : FrameBlind (dk_Pcs g D W sz a v av) := by
  intro q U gf mk r
  obtain ⟨q0, ⟨q1, qP, qK, qD, qS⟩, qT⟩ := r
  exact ⟨q0, ⟨q1, qP, ⟨va_K.moved (u := U) (U := U.calling gf mk q) (Vm.Alike.refl U.vm) qK.1, dk_N.same (u := U) (U := U.calling gf mk q) rfl qK.2⟩, qD, dk_ST.same (u := U) (U := U.calling gf mk q) rfl qS⟩, vk_S.moved (u := U) (U := U.calling gf mk q) (Vm.Alike.refl U.vm) qT⟩
set_option maxHeartbeats 4000000 in
theorem dg_mets {y : MethodName} {ws ws' : List Cond} {rm : Room} {sz a v : Nat} {av : List Value} {Qc : Array Value → State → Outcome → State → Prop} {mc ms : Nat} {maxL : Nat} {ret : Option FieldType}
    (hy : plainName y.cls = true) (hw : ws = Cond.code y cc maxL ret :: ws') (hav : (lg_sl av).length ≤ maxL)
    (body : ∀ (p : Program) (e : Env) (s : State) (m : MethodId) (args : Array Value) (below : List Frame) (meth : Method) (c : Code) (A : Nat → Prop), A = dg_A o sh.length sz → args = av.toArray → p.tables.exec = Jvm.exec → c.code = cc → meth.sig.returnType = ret → c.maxLocals = maxL → (∀ w ∈ ws, w.before args s = true) → s.vm.findClass y.cls = some m.cls → meth.locks = false → meth.name = y.name →
      va_P D vwCl (dg_w g sh o rf S) s.heap → dk_K g D s → va_S A s.heap s.heap [] → (∀ i, i < sh.length → A (o + i)) → (∀ q : Nat, s.heap.size ≤ q → A q) → dk_ST A s s.heap → dk_sS a v A s s.heap → s.heap.size = sz → ∀ ls : Array Slot, lv_has ls maxL (lv_args 0 av) →
      W p l e rm s m args below meth c s.heap [] 0 0 (MQ below Qc args s mc ms A) (F0 m 0 ls [])) : Met l y ws rm (dk_Pcs g D (dg_w g sh o rf S) sz a v av) Qc mc ms (dg_A o sh.length sz) := by
  refine Met.ofW (cc := cc) (maxL := maxL) (ret := ret) hy hw ?_
  intro p e s m args below meth c s₁ B hml hv
  obtain ⟨rfl, ⟨hsz, hP, hK, hD0, hST⟩, hSt⟩ := hv
  have hl := lv_entry av (n := maxL) hav
  have hE : entryFrame m av.toArray maxL = F0 m 0 ((lg_sl av ++ List.replicate (maxL - (lg_sl av).length) Slot.unset).toArray) [] := lg_entry_eq ..
  rw [hE]
  subst hsz
  rw [dg_A_eq] at hST hSt
  exact body p e s m _ below meth c _ rfl rfl B.exec B.bytes B.returns hml (atoms_spec (ws := ws) B.pre) (findClass_of_methodNamed B.named) B.notSynchronized (name_of_methodNamed B.named B.method).1 hP hK va_S.rf (fun i hi => dg_A_in hi) (fun q h => Or.inr h) hST hSt rfl _ hl
theorem dg_preSs {As : List Value} {a v : Nat} (K : dk_K g D s) (ST : dk_ST A s s.heap) (hSt : dk_sS a v A s s.heap) (hP : va_P D vwCl (dg_w g sh o rf S) H) (hS : va_S A s.heap H locs) (hA1 : ∀ i, i < sh.length → A (o + i)) (hA : ∀ q, s.heap.size ≤ q → A q) : PreS s H (dk_Pcs g D (dg_w g sh o rf S) H.size a v As) As :=
  ⟨dk_blinds, fun U hU hW => ⟨rfl, ⟨by rw [hU], by rw [hU]; exact hP, K.warm hW, dg_D (fun _ _ => trivial), by rw [hU, dg_A_eq]; exact dk_ST.to hW hS (dg_A_sub hA1 hA hS) ST⟩, by rw [hU, dg_A_eq]; exact ((vk_S.moved hW.alike hSt).kept hS.2.1).narrow (dg_A_sub hA1 hA hS)⟩⟩
theorem dg_preVs {As : List Value} {a v : Nat} (K : dk_K g D s) (ST : dk_ST A s s.heap) (hSt : dk_sS a v A s s.heap) (hP : va_P D vwCl (dg_w g sh o rf S) H) (hS : va_S A s.heap H locs) (hA1 : ∀ i, i < sh.length → A (o + i)) (hA : ∀ q, s.heap.size ≤ q → A q) : PreV s H "java/lang/String" a (dk_Pcs g D (dg_w g sh o rf S) H.size a v (.ref a :: As)) As :=
  ⟨dk_blinds, vk_recv hSt (Nat.zero_lt_one) hS, fun U hU hW => ⟨rfl, ⟨by rw [hU], by rw [hU]; exact hP, K.warm hW, dg_D (fun _ _ => trivial), by rw [hU, dg_A_eq]; exact dk_ST.to hW hS (dg_A_sub hA1 hA hS) ST⟩, by rw [hU, dg_A_eq]; exact ((vk_S.moved hW.alike hSt).kept hS.2.1).narrow (dg_A_sub hA1 hA hS)⟩⟩
/-- a byte as a char -/
theorem dk_nch {x z w : Int32} (ez : z = x &&& 255) (ew : w = (z.toUInt32 % 65536).toInt32) : narrow .char (.int w) = .int w := by
  obtain ⟨j, hj, ej⟩ := pk_andE x (m := 255) 8 (by decide +kernel)
  have all : ∀ j : Nat, j < 256 → narrow .char (.int ((nI j).toUInt32 % 65536).toInt32) = .int ((nI j).toUInt32 % 65536).toInt32 := by decide +kernel
  rw [ew, ez, ej]
  exact all j hj
end DGST0
set_option maxHeartbeats 4000000 in
theorem c_J3n (l : Launch) (g : Nat → ClassId) (D : va_G) {sh : List dg_q} {rf : dg_R} (o : Nat) (S : dg_S) (x y : Int32) (h0 : 0 ≤ x.toInt) (h1 : x.toInt < y.toInt) (sz : Nat) : Met l yJ3_checkIndex_8e157 (bw yJ3_checkIndex_8e157 cJ3_checkIndex_8e157 3 (some .int)) ({ frames := 1, cells := 0, slots := 0, locals := 32 } : Room) (dk_Pc g D (dg_w g sh o rf S) sz [.int x, .int y, .null]) (va_Qi (fun (r : Int32) S' => S' = S ∧ True) (dg_B g D sh o rf) (dg_A o sh.length sz)) 0 0 (dg_A o sh.length sz) := by
  refine dg_met (cc := cJ3_checkIndex_8e157) (maxL := 3) (ret := (some .int)) (by decide) rfl (Nat.le_of_ble_eq_true rfl) ?_
  intro p e s m args below meth c A hAe harg hx hb hr hml hts hown hlocks hin hP K hS hA1 hA ST hsz ls hl
  rw [← hAe]
  have F : CallFix p m c cJ3_checkIndex_8e157 3 s args (bw yJ3_checkIndex_8e157 cJ3_checkIndex_8e157 3 (some .int)) RJ3 := ⟨hx, hb, hml, hown, hts⟩
  have hl : lv_has ls 3 [(0, .int x), (1, .int y), (2, .null)] := hl
  refine lv_iload_n hx hb dJ3_checkIndex_8e157_0 rfl (lv_at hl 0 rfl) ?_
  refine lv_if_lt (tgt := 9) hx hb dJ3_checkIndex_8e157_1 (by decide) (fun c => absurd (dk_ltc (k := 0) (by decide +kernel) c) (by omega)) (fun _ => ?_)
  refine lv_iload_n hx hb dJ3_checkIndex_8e157_4 rfl (lv_at hl 0 rfl) ?_
  refine lv_iload_n hx hb dJ3_checkIndex_8e157_5 rfl (lv_at hl 1 rfl) ?_
  refine lv_icmp_lt (tgt := 16) hx hb dJ3_checkIndex_8e157_6 (by decide) (fun _ => ?_) (fun c => absurd (dk_ltp (k := (y).toInt) rfl (by omega)) c)
  refine lv_iload_n hx hb dJ3_checkIndex_8e157_16 rfl (lv_at hl 0 rfl) ?_
  refine W.widen (k := 0) (n := 0) (Nat.le_of_ble_eq_true rfl) (Nat.le_of_ble_eq_true rfl) ?_
  exact dg_iret hx hb hr hlocks rfl hP hS ⟨rfl, trivial⟩ dJ3_checkIndex_8e157_17
set_option maxHeartbeats 4000000 in
theorem c_J3r (l : Launch) (g : Nat → ClassId) (D : va_G) {sh : List dg_q} {rf : dg_R} (o : Nat) (S : dg_S) (x y : Int32) (q9 : Nat) (h0 : 0 ≤ x.toInt) (h1 : x.toInt < y.toInt) (sz : Nat) : Met l yJ3_checkIndex_8e157 (bw yJ3_checkIndex_8e157 cJ3_checkIndex_8e157 3 (some .int)) ({ frames := 1, cells := 0, slots := 0, locals := 32 } : Room) (dk_Pc g D (dg_w g sh o rf S) sz [.int x, .int y, .ref q9]) (va_Qi (fun (r : Int32) S' => S' = S ∧ True) (dg_B g D sh o rf) (dg_A o sh.length sz)) 0 0 (dg_A o sh.length sz) := by
  refine dg_met (cc := cJ3_checkIndex_8e157) (maxL := 3) (ret := (some .int)) (by decide) rfl (Nat.le_of_ble_eq_true rfl) ?_
  intro p e s m args below meth c A hAe harg hx hb hr hml hts hown hlocks hin hP K hS hA1 hA ST hsz ls hl
  rw [← hAe]
  have F : CallFix p m c cJ3_checkIndex_8e157 3 s args (bw yJ3_checkIndex_8e157 cJ3_checkIndex_8e157 3 (some .int)) RJ3 := ⟨hx, hb, hml, hown, hts⟩
  have hl : lv_has ls 3 [(0, .int x), (1, .int y), (2, .ref q9)] := hl
  refine lv_iload_n hx hb dJ3_checkIndex_8e157_0 rfl (lv_at hl 0 rfl) ?_
  refine lv_if_lt (tgt := 9) hx hb dJ3_checkIndex_8e157_1 (by decide) (fun c => absurd (dk_ltc (k := 0) (by decide +kernel) c) (by omega)) (fun _ => ?_)
  refine lv_iload_n hx hb dJ3_checkIndex_8e157_4 rfl (lv_at hl 0 rfl) ?_
  refine lv_iload_n hx hb dJ3_checkIndex_8e157_5 rfl (lv_at hl 1 rfl) ?_
  refine lv_icmp_lt (tgt := 16) hx hb dJ3_checkIndex_8e157_6 (by decide) (fun _ => ?_) (fun c => absurd (dk_ltp (k := (y).toInt) rfl (by omega)) c)
  refine lv_iload_n hx hb dJ3_checkIndex_8e157_16 rfl (lv_at hl 0 rfl) ?_
  refine W.widen (k := 0) (n := 0) (Nat.le_of_ble_eq_true rfl) (Nat.le_of_ble_eq_true rfl) ?_
  exact dg_iret hx hb hr hlocks rfl hP hS ⟨rfl, trivial⟩ dJ3_checkIndex_8e157_17
set_option maxHeartbeats 4000000 in
theorem c_J0chk (l : Launch) (g : Nat → ClassId) (D : va_G) {sh : List dg_q} {rf : dg_R} (o : Nat) (S : dg_S) (x y : Int32) (h0 : 0 ≤ x.toInt) (h1 : x.toInt < y.toInt) (sz : Nat) : Met l yJ0_checkIndex_df160 (bw yJ0_checkIndex_df160 cJ0_checkIndex_df160 2 none) ({ frames := 2, cells := 0, slots := 0, locals := 54 } : Room) (dk_Pc g D (dg_w g sh o rf S) sz [.int x, .int y]) (va_Qv (fun S' => S' = S ∧ True) (dg_B g D sh o rf) (dg_A o sh.length sz)) 0 0 (dg_A o sh.length sz) := by
  refine dg_met (cc := cJ0_checkIndex_df160) (maxL := 2) (ret := none) (by decide) rfl (Nat.le_of_ble_eq_true rfl) ?_
  intro p e s m args below meth c A hAe harg hx hb hr hml hts hown hlocks hin hP K hS hA1 hA ST hsz ls hl
  rw [← hAe]
  have F : CallFix p m c cJ0_checkIndex_df160 2 s args (bw yJ0_checkIndex_df160 cJ0_checkIndex_df160 2 none) RJ0 := ⟨hx, hb, hml, hown, hts⟩
  have hl : lv_has ls 2 [(0, .int x), (1, .int y)] := hl
  obtain ⟨-, hZc, ⟨r9, hZf, hr9⟩, -⟩ := id ST
  refine lv_iload_n hx hb dJ0_checkIndex_df160_0 rfl (lv_at hl 0 rfl) ?_
  refine lv_iload_n hx hb dJ0_checkIndex_df160_1 rfl (lv_at hl 1 rfl) ?_
  refine va_gets hx hb hZf hS hown (hts _ (bw_mem wB_155)) (fun _ h9 => h9) dJ0_checkIndex_df160_2 ?_
  rcases hr9 with rfl | ⟨q9, rfl⟩
  · refine dg_calli hS hA1 hA (va_runS (As := [.int x, .int y, .null]) (rest := []) F (c_J3n l g D o S x y h0 h1 s.heap.size) (va_cwS 3 hts (bw_S wB_157 wB_158 wB_159 wB_156) rfl rfl rfl (by decide +kernel) ⟨Nat.le_of_ble_eq_true rfl, Nat.le_of_ble_eq_true rfl⟩) (dg_preS K ST hP hS hA1 hA) rfl rfl hl.1 rfl (lv_room (Nat.le_of_ble_eq_true rfl)) dJ0_checkIndex_df160_5 ⟨Nat.le_of_ble_eq_true rfl, Nat.le_of_ble_eq_true rfl⟩) (fun z S_1 hw H locs hP hS => ?_)
    rw [hw.1] at hP
    refine lv_pop hx hb dJ0_checkIndex_df160_8 rfl ?_
    refine W.widen (k := 0) (n := 0) (Nat.le_of_ble_eq_true rfl) (Nat.le_of_ble_eq_true rfl) ?_
    exact dg_vret hx hb hr hlocks hP hS ⟨rfl, trivial⟩ dJ0_checkIndex_df160_9
  · refine dg_calli hS hA1 hA (va_runS (As := [.int x, .int y, .ref q9]) (rest := []) F (c_J3r l g D o S x y q9 h0 h1 s.heap.size) (va_cwS 3 hts (bw_S wB_157 wB_158 wB_159 wB_156) rfl rfl rfl (by decide +kernel) ⟨Nat.le_of_ble_eq_true rfl, Nat.le_of_ble_eq_true rfl⟩) (dg_preS K ST hP hS hA1 hA) rfl rfl hl.1 rfl (lv_room (Nat.le_of_ble_eq_true rfl)) dJ0_checkIndex_df160_5 ⟨Nat.le_of_ble_eq_true rfl, Nat.le_of_ble_eq_true rfl⟩) (fun z S_1 hw H locs hP hS => ?_)
    rw [hw.1] at hP
    refine lv_pop hx hb dJ0_checkIndex_df160_8 rfl ?_
    refine W.widen (k := 0) (n := 0) (Nat.le_of_ble_eq_true rfl) (Nat.le_of_ble_eq_true rfl) ?_
    exact dg_vret hx hb hr hlocks hP hS ⟨rfl, trivial⟩ dJ0_checkIndex_df160_9
set_option maxHeartbeats 4000000 in
theorem c_J1chr (l : Launch) (g : Nat → ClassId) (D : va_G) {sh : List dg_q} {rf : dg_R} (o : Nat) (S : dg_S) (a v : Nat) (i : Int32) (hi : 0 ≤ i.toInt ∧ i.toInt ≤ 161) (sz : Nat) : Met l yJ1_charAt_3b067 (bw yJ1_charAt_3b067 cJ1_charAt_3b067 2 (some .char)) ({ frames := 3, cells := 0, slots := 0, locals := 75 } : Room) (dk_Pcs g D (dg_w g sh o rf S) sz a v [.ref v, .int i]) (va_Qi (fun (r : Int32) S' => S' = S ∧ narrow .char (.int r) = .int r ∧ r = dk_wch i ∧ True) (dg_B g D sh o rf) (dg_A o sh.length sz)) 0 0 (dg_A o sh.length sz) := by
  refine dg_mets (cc := cJ1_charAt_3b067) (maxL := 2) (ret := (some .char)) (by decide) rfl (Nat.le_of_ble_eq_true rfl) ?_
  intro p e s m args below meth c A hAe harg hx hb hr hml hts hown hlocks hin hP K hS hA1 hA ST hSt hsz ls hl
  rw [← hAe]
  have F : CallFix p m c cJ1_charAt_3b067 2 s args (bw yJ1_charAt_3b067 cJ1_charAt_3b067 2 (some .char)) RJ1 := ⟨hx, hb, hml, hown, hts⟩
  have hl : lv_has ls 2 [(0, .ref v), (1, .int i)] := hl
  have hT : va_T .byte v 162 (fun j => .int (dk_by.getD j 0)) A s s.heap := (hSt.1 0 Nat.zero_lt_one).2.2.2
  have h162 : (162 : Int32).toInt = 162 := by decide +kernel
  refine lv_iload_n hx hb dJ1_charAt_3b067_0 rfl (lv_at hl 1 rfl) ?_
  refine lv_aload_n hx hb dJ1_charAt_3b067_1 rfl (lv_at hl 0 rfl) ?_
  refine va_tlen hx hb hT hS (v := 162) (by decide +kernel) dJ1_charAt_3b067_2 ?_
  refine dg_callv hS hA1 hA (va_runS (As := [.int i, .int 162]) (rest := []) F (c_J0chk l g D o S i 162 hi.1 (by omega) s.heap.size) (va_cwS 2 hts (bw_S wB_161 wB_162 wB_163 wB_160) rfl rfl rfl (by decide +kernel) ⟨Nat.le_of_ble_eq_true rfl, Nat.le_of_ble_eq_true rfl⟩) (dg_preS K ST hP hS hA1 hA) rfl rfl hl.1 rfl (lv_room (Nat.le_of_ble_eq_true rfl)) dJ1_charAt_3b067_3 ⟨Nat.le_of_ble_eq_true rfl, Nat.le_of_ble_eq_true rfl⟩) (fun S_1 hw H locs hP hS => ?_)
  rw [hw.1] at hP
  refine lv_aload_n hx hb dJ1_charAt_3b067_6 rfl (lv_at hl 0 rfl) ?_
  refine lv_iload_n hx hb dJ1_charAt_3b067_7 rfl (lv_at hl 1 rfl) ?_
  refine va_tb hx hb hT hS (i := i) (dk_inv hi.1 (by omega)) (v := .int (dk_by.getD i.toNatClampNeg 0)) rfl dJ1_charAt_3b067_8 ?_
  refine lv_sipush (v := 255) hx hb dJ1_charAt_3b067_9 (by decide +kernel) ?_
  refine lv_iand hx hb dJ1_charAt_3b067_12 ?_
  refine lv_topi (fun z ez => ?_)
  refine lv_i2c hx hb dJ1_charAt_3b067_13 rfl ?_
  refine lv_topi (fun w ew => ?_)
  have hn := dk_nch ez ew
  refine W.widen (k := 0) (n := 0) (Nat.le_of_ble_eq_true rfl) (Nat.le_of_ble_eq_true rfl) ?_
  exact dg_iret hx hb hr hlocks hn hP hS ⟨rfl, hn, (by rw [ew, ez]; rfl), trivial⟩ dJ1_charAt_3b067_14
set_option maxHeartbeats 4000000 in
theorem c_J0lat (l : Launch) (g : Nat → ClassId) (D : va_G) {sh : List dg_q} {rf : dg_R} (o : Nat) (S : dg_S) (a v : Nat) (sz : Nat) : Met l yJ0_isLatin1_aae02 (bw yJ0_isLatin1_aae02 cJ0_isLatin1_aae02 1 (some .boolean)) ({ frames := 1, cells := 0, slots := 0, locals := 32 } : Room) (dk_Pcs g D (dg_w g sh o rf S) sz a v [.ref a]) (va_Qi (fun (r : Int32) S' => S' = S ∧ r = 1 ∧ True) (dg_B g D sh o rf) (dg_A o sh.length sz)) 0 0 (dg_A o sh.length sz) := by
  refine dg_mets (cc := cJ0_isLatin1_aae02) (maxL := 1) (ret := (some .boolean)) (by decide) rfl (Nat.le_of_ble_eq_true rfl) ?_
  intro p e s m args below meth c A hAe harg hx hb hr hml hts hown hlocks hin hP K hS hA1 hA ST hSt hsz ls hl
  rw [← hAe]
  have F : CallFix p m c cJ0_isLatin1_aae02 1 s args (bw yJ0_isLatin1_aae02 cJ0_isLatin1_aae02 1 (some .boolean)) RJ0 := ⟨hx, hb, hml, hown, hts⟩
  have hl : lv_has ls 1 [(0, .ref a)] := hl
  obtain ⟨-, hZc, -⟩ := id ST
  have hC : va_OF "java/lang/String" "coder" "B" (.int 0) a A s s.heap := (hSt.1 0 Nat.zero_lt_one).2.1
  refine va_gets hx hb hZc hS hown (hts _ (bw_mem wB_164)) (fun _ h9 => h9) dJ0_isLatin1_aae02_0 ?_
  refine lv_if_eq (tgt := 17) hx hb dJ0_isLatin1_aae02_3 (by decide) (fun c => absurd c (by decide +kernel)) (fun _ => ?_)
  refine lv_aload_n hx hb dJ0_isLatin1_aae02_6 rfl (lv_at hl 0 rfl) ?_
  refine vk_getf hx hb hC hS hown (hts _ (bw_mem wB_165)) (fun _ h9 => h9) dJ0_isLatin1_aae02_7 ?_
  refine lv_if_ne (tgt := 17) hx hb dJ0_isLatin1_aae02_10 (by decide) (fun c => absurd rfl c) (fun _ => ?_)
  refine lv_iconst (v := 1) hx hb dJ0_isLatin1_aae02_13 (by decide +kernel) ?_
  refine lv_goto (tgt := 18) hx hb dJ0_isLatin1_aae02_14 (by decide) ?_
  refine W.widen (k := 0) (n := 0) (Nat.le_of_ble_eq_true rfl) (Nat.le_of_ble_eq_true rfl) ?_
  exact dg_iret hx hb hr hlocks (by decide +kernel) hP hS ⟨rfl, rfl, trivial⟩ dJ0_isLatin1_aae02_18
set_option maxHeartbeats 4000000 in
theorem c_J0chr (l : Launch) (g : Nat → ClassId) (D : va_G) {sh : List dg_q} {rf : dg_R} (o : Nat) (S : dg_S) (a v : Nat) (i : Int32) (hi : 0 ≤ i.toInt ∧ i.toInt ≤ 161) (sz : Nat) : Met l yJ0_charAt_5068e (bw yJ0_charAt_5068e cJ0_charAt_5068e 2 (some .char)) ({ frames := 4, cells := 0, slots := 0, locals := 96 } : Room) (dk_Pcs g D (dg_w g sh o rf S) sz a v [.ref a, .int i]) (va_Qi (fun (r : Int32) S' => S' = S ∧ r = dk_wch i ∧ True) (dg_B g D sh o rf) (dg_A o sh.length sz)) 0 0 (dg_A o sh.length sz) := by
  refine dg_mets (cc := cJ0_charAt_5068e) (maxL := 2) (ret := (some .char)) (by decide) rfl (Nat.le_of_ble_eq_true rfl) ?_
  intro p e s m args below meth c A hAe harg hx hb hr hml hts hown hlocks hin hP K hS hA1 hA ST hSt hsz ls hl
  rw [← hAe]
  have F : CallFix p m c cJ0_charAt_5068e 2 s args (bw yJ0_charAt_5068e cJ0_charAt_5068e 2 (some .char)) RJ0 := ⟨hx, hb, hml, hown, hts⟩
  have hl : lv_has ls 2 [(0, .ref a), (1, .int i)] := hl
  have hV : va_OF "java/lang/String" "value" "[B" (.ref v) a A s s.heap := (hSt.1 0 Nat.zero_lt_one).2.2.1
  refine lv_aload_n hx hb dJ0_charAt_5068e_0 rfl (lv_at hl 0 rfl) ?_
  refine dg_calli hS hA1 hA (va_runV (As := []) (rest := []) F (c_J0lat l g D o S a v s.heap.size) (cwV 0 hts (bw_V wB_166 wB_167 wB_168 wB_163 wB_169) rfl rfl rfl (by decide +kernel) ⟨Nat.le_of_ble_eq_true rfl, Nat.le_of_ble_eq_true rfl⟩) (dg_preVs K ST hSt hP hS hA1 hA) rfl rfl hl.1 rfl (lv_room (Nat.le_of_ble_eq_true rfl)) dJ0_charAt_5068e_1 ⟨Nat.le_of_ble_eq_true rfl, Nat.le_of_ble_eq_true rfl⟩) (fun x S_1 hw H locs hP hS => ?_)
  obtain ⟨hq1, hx1, -⟩ := hw
  rw [hq1] at hP
  subst hx1
  refine lv_if_eq (tgt := 16) hx hb dJ0_charAt_5068e_4 (by decide) (fun c => absurd c (by decide +kernel)) (fun _ => ?_)
  refine lv_aload_n hx hb dJ0_charAt_5068e_7 rfl (lv_at hl 0 rfl) ?_
  refine vk_getf hx hb hV hS hown (hts _ (bw_mem wB_170)) (fun _ h9 => h9) dJ0_charAt_5068e_8 ?_
  refine lv_iload_n hx hb dJ0_charAt_5068e_11 rfl (lv_at hl 1 rfl) ?_
  refine dg_calli hS hA1 hA (va_runS (As := [.ref v, .int i]) (rest := []) F (c_J1chr l g D o S a v i hi H.size) (va_cwS 2 hts (bw_S wB_172 wB_173 wB_174 wB_171) rfl rfl rfl (by decide +kernel) ⟨Nat.le_of_ble_eq_true rfl, Nat.le_of_ble_eq_true rfl⟩) (dg_preSs K ST hSt hP hS hA1 hA) rfl rfl hl.1 rfl (lv_room (Nat.le_of_ble_eq_true rfl)) dJ0_charAt_5068e_12 ⟨Nat.le_of_ble_eq_true rfl, Nat.le_of_ble_eq_true rfl⟩) (fun z S_2 hw H locs hP hS => ?_)
  obtain ⟨hq2, hn, hwv, -⟩ := hw
  rw [hq2] at hP
  refine W.widen (k := 0) (n := 0) (Nat.le_of_ble_eq_true rfl) (Nat.le_of_ble_eq_true rfl) ?_
  exact dg_iret hx hb hr hlocks hn hP hS ⟨rfl, hwv, trivial⟩ dJ0_charAt_5068e_15
section DGST
variable {p : Program} {l : Launch} {e : Env} {R : Room} {s : State} {m : MethodId} {args : Array Value} {below : List Frame} {meth : Method} {c : Code} {H : Heap} {locs : List Loc} {cells slots : Nat} {Q : State → Prop}
variable {cc : ByteArray} {pc : Nat} {ls : Array Slot} {rest : List Value} {D : va_G} {A : Nat → Prop} {H0 : Heap} {g : Nat → ClassId} {sh : List dg_q} {o : Nat} {rf : dg_R} {S : dg_S}
theorem dg_charAt {maxL : Nat} {ret : Option FieldType} {y : MethodName} (F : CallFix p m c cc maxL s args (bw y cc maxL ret) RX9) (K : dk_K g D s) (ST : dk_ST A s s.heap) {a v : Nat} (hSt : vk_S 1 [162] [dk_by] (fun _ => a) (fun _ => v) A s s.heap) (hP : va_P D vwCl (dg_w g sh o rf S) H) (hS : va_S A s.heap H locs) (hA1 : ∀ i, i < sh.length → A (o + i)) (hA : ∀ q, s.heap.size ≤ q → A q) {i : Int32} (hi : 0 ≤ i.toInt ∧ i.toInt ≤ 161) (hl : ls.size = maxL) (hfr : 6 ≤ R.frames) (hlo : 300 ≤ R.locals) (hcs : cells ≤ R.cells ∧ slots ≤ R.slots) (hrest : (rest.map fun v => v.category).sum ≤ 8) (hdg : decode cc pc = .ok (.invokevirtual 67, 3))
    (kk : ∀ (r : Int32) (H1 : Heap) (locs1 : List Loc), r = dk_wch i → va_P D vwCl (dg_w g sh o rf S) H1 → va_S A s.heap H1 locs1 → W p l e R s m args below meth c H1 locs1 cells slots Q (F0 m (pc + 3) ls (.int r :: rest))) : W p l e R s m args below meth c H locs cells slots Q (F0 m pc ls (.int i :: .ref a :: rest)) := by
  have hts := F.2.2.2.2
  refine dg_calli (mc := 0) (ms := 0) hS hA1 hA (va_runV (As := [.int i]) (rest := rest) F (c_J0chr l g D o S a v i hi H.size) (cwV 1 hts (bw_V wB_175 wB_176 wB_177 wB_163 wB_178) rfl rfl rfl (by decide +kernel) ⟨by show 4 + 1 ≤ _; omega, by show 8 + (2 + 11) + 96 ≤ _; omega⟩) (dg_preVs K ST hSt hP hS hA1 hA) rfl rfl hl rfl (by show 2 * 0 + _ ≤ 8; omega) hdg ⟨hcs.1, hcs.2⟩) (fun x S_1 hw H1 locs1 hP1 hS1 => ?_)
  rw [hw.1] at hP1
  exact kk x H1 locs1 hw.2.1 hP1 hS1
end DGST
