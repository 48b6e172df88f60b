/-! what a run of writes leaves of cell 0's fields and of the rows: all but K and A -/
def dg_kp (K A : List Nat) (S S' : dg_S) : Prop := (∀ j, j ∉ K → S'.1 0 j = S.1 0 j) ∧ ∀ i, i ∉ A → S'.2.1 i = S.2.1 i
theorem dg_kp.rf {S : dg_S} : dg_kp [] [] S S := ⟨fun _ _ => rfl, fun _ _ => rfl⟩
theorem dg_kp.F {K A : List Nat} {S1 S2 S3 : dg_S} {k : Nat} {v : Value} (h : dg_kp K A S2 S3) (e : S2 = dg_uF S1 0 k v) : dg_kp (k :: K) A S1 S3 := ⟨fun j hj => (h.1 j (fun q => hj (List.mem_cons_of_mem _ q))).trans (dg_uF_ne e (fun q => hj (by rw [q.2]; exact .head _))), fun i hi => (h.2 i hi).trans (dg_uF_f e i)⟩
theorem dg_kp.f {K A : List Nat} {S1 S2 S3 : dg_S} {i : Nat} {r : Nat → Int32} (h : dg_kp K A S2 S3) (e : S2 = dg_uf S1 i r) : dg_kp K (i :: A) S1 S3 := ⟨fun j hj => (h.1 j hj).trans (dg_uf_F e 0 j), fun a ha => (h.2 a (fun q => ha (List.mem_cons_of_mem _ q))).trans (dg_uf_ne e (fun q => ha (by rw [q]; exact .head _)))⟩
theorem dg_kp.l {K A : List Nat} {S1 S2 S3 : dg_S} {i : Nat} {r : Nat → Int64} (h : dg_kp K A S2 S3) (e : S2 = dg_ul S1 i r) : dg_kp K A S1 S3 := ⟨fun j hj => (h.1 j hj).trans (dg_ul_F e 0 j), fun a ha => (h.2 a ha).trans (dg_ul_f e a)⟩
