/-! the constant text of the OWN WORDS -/
section DGST
variable {p : Program} {l : Launch} {e : Env} {R : Room} {s : State} {m : MethodId} {args : Array Value} {below : List Frame} {meth : Method} {c : Code} {H : Heap} {locs : List Loc} {cells slots : Nat} {Q : State → Prop}
variable {cc : ByteArray} {pc : Nat} {ls : Array Slot} {rest : List Value} {D : va_G} {A : Nat → Prop} {H0 : Heap} {g : Nat → ClassId} {sh : List dg_q} {o : Nat} {rf : dg_R} {S : dg_S}
theorem dg_charAt {maxL : Nat} {ret : Option FieldType} {y : MethodName} (F : CallFix p m c cc maxL s args (bw y cc maxL ret) RX9) (K : dk_K g D s) (ST : dk_ST A s s.heap) {a v : Nat} (hSt : vk_S 1 [162] [dk_by] (fun _ => a) (fun _ => v) A s s.heap) (hP : va_P D vwCl (dg_w g sh o rf S) H) (hS : va_S A s.heap H locs) (hA1 : ∀ i, i < sh.length → A (o + i)) (hA : ∀ q, s.heap.size ≤ q → A q) {i : Int32} (hi : 0 ≤ i.toInt ∧ i.toInt ≤ 161) (hl : ls.size = maxL) (hfr : 6 ≤ R.frames) (hlo : 300 ≤ R.locals) (hdg : decode cc pc = .ok (.invokevirtual 67, 3))
    (kk : ∀ (r : Int32) (H1 : Heap) (locs1 : List Loc), va_P D vwCl (dg_w g sh o rf S) H1 → va_S A s.heap H1 locs1 → W p l e R s m args below meth c H1 locs1 cells slots Q (F0 m (pc + 3) ls (.int r :: rest))) : W p l e R s m args below meth c H locs cells slots Q (F0 m pc ls (.int i :: .ref a :: rest)) := by
  sorry
end DGST
