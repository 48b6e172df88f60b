/-! the words that methods ask for: one list for all of them -/
theorem dk_cons {big l : List Cond} {a : Cond} (h : a ∈ big) (t : ∀ w ∈ l, w ∈ big) : ∀ w ∈ a :: l, w ∈ big := fun w hw => (List.mem_cons.mp hw).elim (fun e => e ▸ h) (t w)
theorem dk_app {big l1 l2 : List Cond} (h1 : ∀ w ∈ l1, w ∈ big) (h2 : ∀ w ∈ l2, w ∈ big) : ∀ w ∈ l1 ++ l2, w ∈ big := fun w hw => (List.mem_append.mp hw).elim (h1 w) (h2 w)
theorem tbl_0 : ∀ w ∈ tables_1, w ∈ lw_tbl := fun w h => List.mem_append_right _ h
theorem tbl_1 : ∀ w ∈ tables_1_1, w ∈ lw_tbl := fun w h => tbl_0 w (List.mem_append_left _ h)
theorem tbl_2 : ∀ w ∈ tables_1_2, w ∈ lw_tbl := fun w h => tbl_0 w (List.mem_append_right _ (List.mem_append_left _ h))
theorem tbl_3 : ∀ w ∈ tables_1_3, w ∈ lw_tbl := fun w h => tbl_0 w (List.mem_append_right _ (List.mem_append_right _ (List.mem_append_left _ h)))
theorem tbl_4 : ∀ w ∈ tables_1_4, w ∈ lw_tbl := fun w h => tbl_0 w (List.mem_append_right _ (List.mem_append_right _ (List.mem_append_right _ (List.mem_append_left _ h))))
theorem tbl_5 : ∀ w ∈ tables_1_5, w ∈ lw_tbl := fun w h => tbl_0 w (List.mem_append_right _ (List.mem_append_right _ (List.mem_append_right _ (List.mem_append_right _ (List.mem_append_left _ h)))))
theorem tbl_6 : ∀ w ∈ tables_1_6, w ∈ lw_tbl := fun w h => tbl_0 w (List.mem_append_right _ (List.mem_append_right _ (List.mem_append_right _ (List.mem_append_right _ (List.mem_append_right _ (List.mem_append_left _ h))))))
theorem tbl_7 : ∀ w ∈ tables_1_7, w ∈ lw_tbl := fun w h => tbl_0 w (List.mem_append_right _ (List.mem_append_right _ (List.mem_append_right _ (List.mem_append_right _ (List.mem_append_right _ (List.mem_append_right _ (List.mem_append_left _ h)))))))
theorem tbl_8 : ∀ w ∈ tables_1_8, w ∈ lw_tbl := fun w h => tbl_0 w (List.mem_append_right _ (List.mem_append_right _ (List.mem_append_right _ (List.mem_append_right _ (List.mem_append_right _ (List.mem_append_right _ (List.mem_append_right _ (List.mem_append_left _ h))))))))
theorem tbl_9 : ∀ w ∈ tables_1_9, w ∈ lw_tbl := fun w h => tbl_0 w (List.mem_append_right _ (List.mem_append_right _ (List.mem_append_right _ (List.mem_append_right _ (List.mem_append_right _ (List.mem_append_right _ (List.mem_append_right _ (List.mem_append_right _ h))))))))
def dgB : List Cond := lw_tbl.filter goodWord
abbrev bw (y : MethodName) (c : ByteArray) (n : Nat) (r : Option FieldType) : List Cond := Cond.code y c n r :: dgB
theorem bw_mem {w : Cond} {y : MethodName} {c : ByteArray} {n : Nat} {r : Option FieldType} (h : w ∈ dgB) : w ∈ bw y c n r := List.mem_cons_of_mem _ h
theorem dgB_good {w : Cond} (h : w ∈ dgB) : (w.onTables && w.keeps) = true ∨ ∃ ty, w = .arrayClass ty := good_of_word (List.mem_filter.mp h).2
theorem bw_in {y y1 : MethodName} {c c1 : ByteArray} {n n1 : Nat} {r r1 : Option FieldType} (h : Cond.code y1 c1 n1 r1 ∈ dgB) : GoodIn (bw y c n r) (bw y1 c1 n1 r1) := by
  intro w hw
  rcases List.mem_cons.mp hw with e | e
  · subst e
    exact ⟨bw_mem h, dgB_good h⟩
  · exact ⟨bw_mem e, dgB_good e⟩
theorem bw_cons {y : MethodName} {c : ByteArray} {n : Nat} {r : Option FieldType} {a : Cond} {l : List Cond} (h : a ∈ dgB) (hl : GoodIn (bw y c n r) l) : GoodIn (bw y c n r) (a :: l) := by
  intro w hw
  rcases List.mem_cons.mp hw with e | e
  · subst e
    exact ⟨bw_mem h, dgB_good h⟩
  · exact hl w e
theorem bw_V {y y1 : MethodName} {c c1 : ByteArray} {n n1 : Nat} {r r1 : Option FieldType} {own C : String} {idx : Nat} (h1 : Cond.methodLink own idx y1 ∈ dgB) (h2 : Cond.instanceMethod y1 ∈ dgB) (h3 : Cond.selects C y1 y1 ∈ dgB) (h4 : Cond.initialized C ∈ dgB) (h5 : Cond.code y1 c1 n1 r1 ∈ dgB) : GoodIn (bw y c n r) (wsV own idx C y1 (bw y1 c1 n1 r1)) := bw_cons h1 (bw_cons h2 (bw_cons h3 (bw_cons h4 (bw_in h5))))
theorem bw_S {y y1 : MethodName} {c c1 : ByteArray} {n n1 : Nat} {r r1 : Option FieldType} {own : String} {idx : Nat} (h1 : Cond.methodLink own idx y1 ∈ dgB) (h2 : Cond.static y1 ∈ dgB) (h3 : Cond.initialized y1.cls ∈ dgB) (h5 : Cond.code y1 c1 n1 r1 ∈ dgB) : GoodIn (bw y c n r) (va_wsS own idx y1 (bw y1 c1 n1 r1)) := bw_cons h1 (bw_cons h2 (bw_cons h3 (bw_in h5)))
theorem wL_0 : Cond.lays RX0 "DarkMine$Feeling" "tellingLeft" "I" ∈ lw_tbl := tbl_3 _ (List.mem_of_getElem? (i := 31) (by decide +kernel))
theorem wL_1 : Cond.lays RX0 "DarkMine$Feeling" "tellingPlace" "I" ∈ lw_tbl := tbl_3 _ (List.mem_of_getElem? (i := 29) (by decide +kernel))
theorem wL_2 : Cond.lays RX0 "DarkMine$Feeling" "tellingShifts" "I" ∈ lw_tbl := tbl_3 _ (List.mem_of_getElem? (i := 27) (by decide +kernel))
theorem wL_3 : Cond.lays RX0 "DarkMine$Feeling" "count" "I" ∈ lw_tbl := tbl_3 _ (List.mem_of_getElem? (i := 25) (by decide +kernel))
theorem wL_4 : Cond.lays RX0 "DarkMine$Feeling" "isTold" "Z" ∈ lw_tbl := tbl_3 _ (List.mem_of_getElem? (i := 23) (by decide +kernel))
theorem wL_5 : Cond.laysFinal RX0 "DarkMine$Feeling" "tally" "[I" ∈ lw_tbl := tbl_3 _ (List.mem_of_getElem? (i := 21) (by decide +kernel))
theorem wL_6 : Cond.laysFinal RX0 "DarkMine$Feeling" "pits" "[LDarkMine$Pit;" ∈ lw_tbl := tbl_3 _ (List.mem_of_getElem? (i := 19) (by decide +kernel))
theorem wL_7 : Cond.laysFinal RX0 "DarkMine$Feeling" "rows" "[I" ∈ lw_tbl := tbl_3 _ (List.mem_of_getElem? (i := 17) (by decide +kernel))
theorem wL_8 : Cond.laysFinal RX0 "DarkMine$Feeling" "works" "LDarkMine$Works;" ∈ lw_tbl := tbl_3 _ (List.mem_of_getElem? (i := 15) (by decide +kernel))
theorem wL_9 : Cond.lays RX1 "DarkMine$Foresight" "changeGrades" "I" ∈ lw_tbl := tbl_2 _ (List.mem_of_getElem? (i := 230) (by decide +kernel))
theorem wL_10 : Cond.lays RX1 "DarkMine$Foresight" "changeOther" "I" ∈ lw_tbl := tbl_2 _ (List.mem_of_getElem? (i := 228) (by decide +kernel))
theorem wL_11 : Cond.lays RX1 "DarkMine$Foresight" "changeRow" "I" ∈ lw_tbl := tbl_2 _ (List.mem_of_getElem? (i := 226) (by decide +kernel))
theorem wL_12 : Cond.lays RX1 "DarkMine$Foresight" "shadeWorth" "I" ∈ lw_tbl := tbl_2 _ (List.mem_of_getElem? (i := 224) (by decide +kernel))
theorem wL_13 : Cond.lays RX1 "DarkMine$Foresight" "shadePlace" "I" ∈ lw_tbl := tbl_2 _ (List.mem_of_getElem? (i := 222) (by decide +kernel))
theorem wL_14 : Cond.lays RX1 "DarkMine$Foresight" "changeFor" "I" ∈ lw_tbl := tbl_2 _ (List.mem_of_getElem? (i := 220) (by decide +kernel))
theorem wL_15 : Cond.lays RX1 "DarkMine$Foresight" "shadeFor" "I" ∈ lw_tbl := tbl_2 _ (List.mem_of_getElem? (i := 218) (by decide +kernel))
theorem wL_16 : Cond.laysFinal RX1 "DarkMine$Foresight" "trial" "LDarkMine$Pit;" ∈ lw_tbl := tbl_2 _ (List.mem_of_getElem? (i := 216) (by decide +kernel))
theorem wL_17 : Cond.laysFinal RX1 "DarkMine$Foresight" "works" "LDarkMine$Works;" ∈ lw_tbl := tbl_2 _ (List.mem_of_getElem? (i := 214) (by decide +kernel))
theorem wL_18 : Cond.laysFinal RX2 "DarkMine$Ground" "ruleEnd" "[I" ∈ lw_tbl := tbl_2 _ (List.mem_of_getElem? (i := 45) (by decide +kernel))
theorem wL_19 : Cond.laysFinal RX2 "DarkMine$Ground" "ruleFrom" "[I" ∈ lw_tbl := tbl_2 _ (List.mem_of_getElem? (i := 43) (by decide +kernel))
theorem wL_20 : Cond.laysFinal RX2 "DarkMine$Ground" "steps" "[I" ∈ lw_tbl := tbl_2 _ (List.mem_of_getElem? (i := 41) (by decide +kernel))
theorem wL_21 : Cond.laysFinal RX2 "DarkMine$Ground" "orderPays" "[I" ∈ lw_tbl := tbl_2 _ (List.mem_of_getElem? (i := 39) (by decide +kernel))
theorem wL_22 : Cond.laysFinal RX2 "DarkMine$Ground" "orderTubs" "[I" ∈ lw_tbl := tbl_2 _ (List.mem_of_getElem? (i := 37) (by decide +kernel))
theorem wL_23 : Cond.laysFinal RX2 "DarkMine$Ground" "orderGrades" "[I" ∈ lw_tbl := tbl_2 _ (List.mem_of_getElem? (i := 35) (by decide +kernel))
theorem wL_24 : Cond.laysFinal RX2 "DarkMine$Ground" "orderNames" "[I" ∈ lw_tbl := tbl_2 _ (List.mem_of_getElem? (i := 33) (by decide +kernel))
theorem wL_25 : Cond.lays RX2 "DarkMine$Ground" "orders" "I" ∈ lw_tbl := tbl_2 _ (List.mem_of_getElem? (i := 31) (by decide +kernel))
theorem wL_26 : Cond.laysFinal RX2 "DarkMine$Ground" "planPlaces" "[I" ∈ lw_tbl := tbl_2 _ (List.mem_of_getElem? (i := 29) (by decide +kernel))
theorem wL_27 : Cond.laysFinal RX2 "DarkMine$Ground" "planMiners" "[I" ∈ lw_tbl := tbl_2 _ (List.mem_of_getElem? (i := 27) (by decide +kernel))
theorem wL_28 : Cond.lays RX2 "DarkMine$Ground" "planRows" "I" ∈ lw_tbl := tbl_2 _ (List.mem_of_getElem? (i := 25) (by decide +kernel))
theorem wL_29 : Cond.laysFinal RX2 "DarkMine$Ground" "minerNames" "[I" ∈ lw_tbl := tbl_2 _ (List.mem_of_getElem? (i := 23) (by decide +kernel))
theorem wL_30 : Cond.lays RX2 "DarkMine$Ground" "miners" "I" ∈ lw_tbl := tbl_2 _ (List.mem_of_getElem? (i := 21) (by decide +kernel))
theorem wL_31 : Cond.laysFinal RX2 "DarkMine$Ground" "grades" "[I" ∈ lw_tbl := tbl_2 _ (List.mem_of_getElem? (i := 19) (by decide +kernel))
theorem wL_32 : Cond.lays RX2 "DarkMine$Ground" "quake" "I" ∈ lw_tbl := tbl_2 _ (List.mem_of_getElem? (i := 17) (by decide +kernel))
theorem wL_33 : Cond.lays RX2 "DarkMine$Ground" "reach" "I" ∈ lw_tbl := tbl_2 _ (List.mem_of_getElem? (i := 15) (by decide +kernel))
theorem wL_34 : Cond.lays RX2 "DarkMine$Ground" "shaftPlace" "I" ∈ lw_tbl := tbl_2 _ (List.mem_of_getElem? (i := 13) (by decide +kernel))
theorem wL_35 : Cond.lays RX2 "DarkMine$Ground" "rows" "I" ∈ lw_tbl := tbl_2 _ (List.mem_of_getElem? (i := 11) (by decide +kernel))
theorem wL_36 : Cond.lays RX2 "DarkMine$Ground" "columns" "I" ∈ lw_tbl := tbl_2 _ (List.mem_of_getElem? (i := 9) (by decide +kernel))
theorem wL_37 : Cond.laysFinal RX3 "DarkMine$History" "keptCountAhead" "[I" ∈ lw_tbl := tbl_1 _ (List.mem_of_getElem? (i := 139) (by decide +kernel))
theorem wL_38 : Cond.laysFinal RX3 "DarkMine$History" "keptAhead" "[[I" ∈ lw_tbl := tbl_1 _ (List.mem_of_getElem? (i := 137) (by decide +kernel))
theorem wL_39 : Cond.laysFinal RX3 "DarkMine$History" "pits" "[LDarkMine$Pit;" ∈ lw_tbl := tbl_1 _ (List.mem_of_getElem? (i := 135) (by decide +kernel))
theorem wL_40 : Cond.lays RX3 "DarkMine$History" "next" "I" ∈ lw_tbl := tbl_1 _ (List.mem_of_getElem? (i := 133) (by decide +kernel))
theorem wL_41 : Cond.lays RX3 "DarkMine$History" "acts" "I" ∈ lw_tbl := tbl_1 _ (List.mem_of_getElem? (i := 131) (by decide +kernel))
theorem wL_42 : Cond.lays RX3 "DarkMine$History" "keptCount" "I" ∈ lw_tbl := tbl_1 _ (List.mem_of_getElem? (i := 129) (by decide +kernel))
theorem wL_43 : Cond.laysFinal RX3 "DarkMine$History" "keptParts" "[I" ∈ lw_tbl := tbl_1 _ (List.mem_of_getElem? (i := 127) (by decide +kernel))
theorem wL_44 : Cond.lays RX4 "DarkMine$Image" "fits" "Z" ∈ lw_tbl := tbl_1 _ (List.mem_of_getElem? (i := 166) (by decide +kernel))
theorem wL_45 : Cond.lays RX4 "DarkMine$Image" "at" "I" ∈ lw_tbl := tbl_1 _ (List.mem_of_getElem? (i := 164) (by decide +kernel))
theorem wL_46 : Cond.lays RX4 "DarkMine$Image" "sum" "I" ∈ lw_tbl := tbl_1 _ (List.mem_of_getElem? (i := 162) (by decide +kernel))
theorem wL_47 : Cond.laysFinal RX4 "DarkMine$Image" "tape" "LDarkMine$Tape;" ∈ lw_tbl := tbl_1 _ (List.mem_of_getElem? (i := 160) (by decide +kernel))
theorem wL_48 : Cond.lays RX4 "DarkMine$Image" "length" "I" ∈ lw_tbl := tbl_1 _ (List.mem_of_getElem? (i := 158) (by decide +kernel))
theorem wL_49 : Cond.laysFinal RX4 "DarkMine$Image" "bytes" "[I" ∈ lw_tbl := tbl_1 _ (List.mem_of_getElem? (i := 156) (by decide +kernel))
theorem wL_50 : Cond.laysFinal RX5 "DarkMine$Pit" "tubCounts" "[I" ∈ lw_tbl := tbl_1 _ (List.mem_of_getElem? (i := 103) (by decide +kernel))
theorem wL_51 : Cond.laysFinal RX5 "DarkMine$Pit" "sold" "[I" ∈ lw_tbl := tbl_1 _ (List.mem_of_getElem? (i := 101) (by decide +kernel))
theorem wL_52 : Cond.laysFinal RX5 "DarkMine$Pit" "planPlaces" "[I" ∈ lw_tbl := tbl_1 _ (List.mem_of_getElem? (i := 99) (by decide +kernel))
theorem wL_53 : Cond.laysFinal RX5 "DarkMine$Pit" "planMiners" "[I" ∈ lw_tbl := tbl_1 _ (List.mem_of_getElem? (i := 97) (by decide +kernel))
theorem wL_54 : Cond.laysFinal RX5 "DarkMine$Pit" "hurts" "[I" ∈ lw_tbl := tbl_1 _ (List.mem_of_getElem? (i := 95) (by decide +kernel))
theorem wL_55 : Cond.laysFinal RX5 "DarkMine$Pit" "cells" "[I" ∈ lw_tbl := tbl_1 _ (List.mem_of_getElem? (i := 93) (by decide +kernel))
theorem wL_56 : Cond.lays RX5 "DarkMine$Pit" "purse" "I" ∈ lw_tbl := tbl_1 _ (List.mem_of_getElem? (i := 91) (by decide +kernel))
theorem wL_57 : Cond.lays RX5 "DarkMine$Pit" "shift" "I" ∈ lw_tbl := tbl_1 _ (List.mem_of_getElem? (i := 89) (by decide +kernel))
theorem wL_58 : Cond.lays RX6 "DarkMine$Reader" "stepCount" "I" ∈ lw_tbl := tbl_2 _ (List.mem_of_getElem? (i := 103) (by decide +kernel))
theorem wL_59 : Cond.lays RX6 "DarkMine$Reader" "rule" "I" ∈ lw_tbl := tbl_2 _ (List.mem_of_getElem? (i := 101) (by decide +kernel))
theorem wL_60 : Cond.lays RX6 "DarkMine$Reader" "value" "I" ∈ lw_tbl := tbl_2 _ (List.mem_of_getElem? (i := 99) (by decide +kernel))
theorem wL_61 : Cond.lays RX6 "DarkMine$Reader" "next" "I" ∈ lw_tbl := tbl_2 _ (List.mem_of_getElem? (i := 97) (by decide +kernel))
theorem wL_62 : Cond.lays RX6 "DarkMine$Reader" "ground" "LDarkMine$Ground;" ∈ lw_tbl := tbl_2 _ (List.mem_of_getElem? (i := 95) (by decide +kernel))
theorem wL_63 : Cond.laysFinal RX6 "DarkMine$Reader" "words" "LDarkMine$Words;" ∈ lw_tbl := tbl_2 _ (List.mem_of_getElem? (i := 93) (by decide +kernel))
theorem wL_64 : Cond.lays RX6 "DarkMine$Reader" "faultAt" "I" ∈ lw_tbl := tbl_2 _ (List.mem_of_getElem? (i := 91) (by decide +kernel))
theorem wL_65 : Cond.lays RX6 "DarkMine$Reader" "fault" "I" ∈ lw_tbl := tbl_2 _ (List.mem_of_getElem? (i := 89) (by decide +kernel))
theorem wL_66 : Cond.lays RX7 "DarkMine$Rules" "top" "I" ∈ lw_tbl := tbl_2 _ (List.mem_of_getElem? (i := 146) (by decide +kernel))
theorem wL_67 : Cond.laysFinal RX7 "DarkMine$Rules" "stack" "[I" ∈ lw_tbl := tbl_2 _ (List.mem_of_getElem? (i := 144) (by decide +kernel))
theorem wL_68 : Cond.lays RX7 "DarkMine$Rules" "lit" "I" ∈ lw_tbl := tbl_2 _ (List.mem_of_getElem? (i := 142) (by decide +kernel))
theorem wL_69 : Cond.lays RX7 "DarkMine$Rules" "open" "I" ∈ lw_tbl := tbl_2 _ (List.mem_of_getElem? (i := 140) (by decide +kernel))
theorem wL_70 : Cond.lays RX7 "DarkMine$Rules" "far" "I" ∈ lw_tbl := tbl_2 _ (List.mem_of_getElem? (i := 138) (by decide +kernel))
theorem wL_71 : Cond.lays RX7 "DarkMine$Rules" "shift" "I" ∈ lw_tbl := tbl_2 _ (List.mem_of_getElem? (i := 136) (by decide +kernel))
theorem wL_72 : Cond.lays RX7 "DarkMine$Rules" "depth" "I" ∈ lw_tbl := tbl_2 _ (List.mem_of_getElem? (i := 134) (by decide +kernel))
theorem wL_73 : Cond.lays RX7 "DarkMine$Rules" "grade" "I" ∈ lw_tbl := tbl_2 _ (List.mem_of_getElem? (i := 132) (by decide +kernel))
theorem wL_74 : Cond.lays RX8 "DarkMine$Tape" "length" "I" ∈ lw_tbl := tbl_1 _ (List.mem_of_getElem? (i := 47) (by decide +kernel))
theorem wL_75 : Cond.laysFinal RX8 "DarkMine$Tape" "bytes" "[I" ∈ lw_tbl := tbl_1 _ (List.mem_of_getElem? (i := 45) (by decide +kernel))
theorem wL_76 : Cond.lays RX9 "DarkMine$Words" "plainEnd" "I" ∈ lw_tbl := tbl_2 _ (List.mem_of_getElem? (i := 76) (by decide +kernel))
theorem wL_77 : Cond.lays RX9 "DarkMine$Words" "count" "I" ∈ lw_tbl := tbl_2 _ (List.mem_of_getElem? (i := 74) (by decide +kernel))
theorem wL_78 : Cond.laysFinal RX9 "DarkMine$Words" "values" "[I" ∈ lw_tbl := tbl_2 _ (List.mem_of_getElem? (i := 72) (by decide +kernel))
theorem wL_79 : Cond.laysFinal RX9 "DarkMine$Words" "starts" "[I" ∈ lw_tbl := tbl_2 _ (List.mem_of_getElem? (i := 70) (by decide +kernel))
theorem wL_80 : Cond.laysFinal RX9 "DarkMine$Words" "kinds" "[I" ∈ lw_tbl := tbl_2 _ (List.mem_of_getElem? (i := 68) (by decide +kernel))
theorem wL_81 : Cond.lays RX10 "DarkMine$Works" "dugGrade" "I" ∈ lw_tbl := tbl_2 _ (List.mem_of_getElem? (i := 189) (by decide +kernel))
theorem wL_82 : Cond.lays RX10 "DarkMine$Works" "dugPlace" "I" ∈ lw_tbl := tbl_2 _ (List.mem_of_getElem? (i := 187) (by decide +kernel))
theorem wL_83 : Cond.lays RX10 "DarkMine$Works" "dugMiner" "I" ∈ lw_tbl := tbl_2 _ (List.mem_of_getElem? (i := 185) (by decide +kernel))
theorem wL_84 : Cond.lays RX10 "DarkMine$Works" "stale" "Z" ∈ lw_tbl := tbl_2 _ (List.mem_of_getElem? (i := 183) (by decide +kernel))
theorem wL_85 : Cond.lays RX10 "DarkMine$Works" "reach" "I" ∈ lw_tbl := tbl_2 _ (List.mem_of_getElem? (i := 181) (by decide +kernel))
theorem wL_86 : Cond.lays RX10 "DarkMine$Works" "pit" "LDarkMine$Pit;" ∈ lw_tbl := tbl_2 _ (List.mem_of_getElem? (i := 179) (by decide +kernel))
theorem wL_87 : Cond.lays RX10 "DarkMine$Works" "ground" "LDarkMine$Ground;" ∈ lw_tbl := tbl_2 _ (List.mem_of_getElem? (i := 177) (by decide +kernel))
theorem wL_88 : Cond.laysFinal RX10 "DarkMine$Works" "queue" "[I" ∈ lw_tbl := tbl_2 _ (List.mem_of_getElem? (i := 175) (by decide +kernel))
theorem wL_89 : Cond.lays RX10 "DarkMine$Works" "exposedCount" "I" ∈ lw_tbl := tbl_2 _ (List.mem_of_getElem? (i := 173) (by decide +kernel))
theorem wL_90 : Cond.laysFinal RX10 "DarkMine$Works" "exposed" "[I" ∈ lw_tbl := tbl_2 _ (List.mem_of_getElem? (i := 171) (by decide +kernel))
theorem wL_91 : Cond.laysFinal RX10 "DarkMine$Works" "beam" "[I" ∈ lw_tbl := tbl_2 _ (List.mem_of_getElem? (i := 169) (by decide +kernel))
theorem wL_92 : Cond.laysFinal RX10 "DarkMine$Works" "far" "[I" ∈ lw_tbl := tbl_2 _ (List.mem_of_getElem? (i := 167) (by decide +kernel))
theorem wL_93 : Cond.laysFinal RX10 "DarkMine$Works" "rules" "LDarkMine$Rules;" ∈ lw_tbl := tbl_2 _ (List.mem_of_getElem? (i := 165) (by decide +kernel))
theorem wL_94 : Cond.lays RX11 "DarkMine" "drawn" "I" ∈ lw_tbl := tbl_3 _ (List.mem_of_getElem? (i := 85) (by decide +kernel))
theorem wL_95 : Cond.laysFinal RX11 "DarkMine" "feeling" "LDarkMine$Feeling;" ∈ lw_tbl := tbl_3 _ (List.mem_of_getElem? (i := 83) (by decide +kernel))
theorem wL_96 : Cond.laysFinal RX11 "DarkMine" "foresight" "LDarkMine$Foresight;" ∈ lw_tbl := tbl_3 _ (List.mem_of_getElem? (i := 81) (by decide +kernel))
theorem wL_97 : Cond.laysFinal RX11 "DarkMine" "works" "LDarkMine$Works;" ∈ lw_tbl := tbl_3 _ (List.mem_of_getElem? (i := 79) (by decide +kernel))
theorem wL_98 : Cond.laysFinal RX11 "DarkMine" "reader" "LDarkMine$Reader;" ∈ lw_tbl := tbl_3 _ (List.mem_of_getElem? (i := 77) (by decide +kernel))
theorem wL_99 : Cond.lays RX11 "DarkMine" "spareGround" "LDarkMine$Ground;" ∈ lw_tbl := tbl_3 _ (List.mem_of_getElem? (i := 75) (by decide +kernel))
theorem wL_100 : Cond.lays RX11 "DarkMine" "ground" "LDarkMine$Ground;" ∈ lw_tbl := tbl_3 _ (List.mem_of_getElem? (i := 73) (by decide +kernel))
theorem wL_101 : Cond.laysFinal RX11 "DarkMine" "refusals" "[I" ∈ lw_tbl := tbl_3 _ (List.mem_of_getElem? (i := 71) (by decide +kernel))
theorem wL_102 : Cond.laysFinal RX11 "DarkMine" "picture" "LDarkMine$Image;" ∈ lw_tbl := tbl_3 _ (List.mem_of_getElem? (i := 69) (by decide +kernel))
theorem wL_103 : Cond.laysFinal RX11 "DarkMine" "history" "LDarkMine$History;" ∈ lw_tbl := tbl_3 _ (List.mem_of_getElem? (i := 67) (by decide +kernel))
theorem wL_104 : Cond.laysFinal RX11 "DarkMine" "trial" "LDarkMine$Pit;" ∈ lw_tbl := tbl_3 _ (List.mem_of_getElem? (i := 65) (by decide +kernel))
theorem wL_105 : Cond.laysFinal RX11 "DarkMine" "pit" "LDarkMine$Pit;" ∈ lw_tbl := tbl_3 _ (List.mem_of_getElem? (i := 63) (by decide +kernel))
theorem wL_106 : Cond.laysFinal RX11 "DarkMine" "tape" "LDarkMine$Tape;" ∈ lw_tbl := tbl_3 _ (List.mem_of_getElem? (i := 61) (by decide +kernel))
theorem wL_107 : Cond.lays RX12 "DarkMineModel" "outs" "I" ∈ lw_tbl := tbl_7 _ (List.mem_of_getElem? (i := 152) (by decide +kernel))
theorem wL_108 : Cond.laysFinal RX12 "DarkMineModel" "out" "[I" ∈ lw_tbl := tbl_7 _ (List.mem_of_getElem? (i := 150) (by decide +kernel))
theorem wL_109 : Cond.laysFinal RX12 "DarkMineModel" "many" "[I" ∈ lw_tbl := tbl_7 _ (List.mem_of_getElem? (i := 148) (by decide +kernel))
theorem wL_110 : Cond.laysFinal RX12 "DarkMineModel" "gradeBy" "[I" ∈ lw_tbl := tbl_7 _ (List.mem_of_getElem? (i := 146) (by decide +kernel))
theorem wL_111 : Cond.laysFinal RX12 "DarkMineModel" "feltGrade" "[I" ∈ lw_tbl := tbl_7 _ (List.mem_of_getElem? (i := 144) (by decide +kernel))
theorem wL_112 : Cond.laysFinal RX12 "DarkMineModel" "feltCell" "[I" ∈ lw_tbl := tbl_7 _ (List.mem_of_getElem? (i := 142) (by decide +kernel))
theorem wL_113 : Cond.laysFinal RX12 "DarkMineModel" "feltShifts" "[I" ∈ lw_tbl := tbl_7 _ (List.mem_of_getElem? (i := 140) (by decide +kernel))
theorem wL_114 : Cond.lays RX12 "DarkMineModel" "feltMany" "I" ∈ lw_tbl := tbl_7 _ (List.mem_of_getElem? (i := 138) (by decide +kernel))
theorem wL_115 : Cond.laysFinal RX12 "DarkMineModel" "lessBy" "[I" ∈ lw_tbl := tbl_7 _ (List.mem_of_getElem? (i := 136) (by decide +kernel))
theorem wL_116 : Cond.laysFinal RX12 "DarkMineModel" "queue" "[I" ∈ lw_tbl := tbl_7 _ (List.mem_of_getElem? (i := 134) (by decide +kernel))
theorem wL_117 : Cond.laysFinal RX12 "DarkMineModel" "farOf" "[I" ∈ lw_tbl := tbl_7 _ (List.mem_of_getElem? (i := 132) (by decide +kernel))
theorem wL_118 : Cond.laysFinal RX12 "DarkMineModel" "asked" "[I" ∈ lw_tbl := tbl_7 _ (List.mem_of_getElem? (i := 130) (by decide +kernel))
theorem wL_119 : Cond.laysFinal RX12 "DarkMineModel" "stack" "[J" ∈ lw_tbl := tbl_7 _ (List.mem_of_getElem? (i := 128) (by decide +kernel))
theorem wL_120 : Cond.lays RX12 "DarkMineModel" "reachNow" "I" ∈ lw_tbl := tbl_7 _ (List.mem_of_getElem? (i := 126) (by decide +kernel))
theorem wL_121 : Cond.lays RX12 "DarkMineModel" "seeds" "J" ∈ lw_tbl := tbl_7 _ (List.mem_of_getElem? (i := 124) (by decide +kernel))
theorem wL_122 : Cond.lays RX12 "DarkMineModel" "undos" "I" ∈ lw_tbl := tbl_7 _ (List.mem_of_getElem? (i := 122) (by decide +kernel))
theorem wL_123 : Cond.lays RX12 "DarkMineModel" "undoFirst" "I" ∈ lw_tbl := tbl_7 _ (List.mem_of_getElem? (i := 120) (by decide +kernel))
theorem wL_124 : Cond.laysFinal RX12 "DarkMineModel" "keptRow" "[I" ∈ lw_tbl := tbl_7 _ (List.mem_of_getElem? (i := 118) (by decide +kernel))
theorem wL_125 : Cond.laysFinal RX12 "DarkMineModel" "keptMany" "[I" ∈ lw_tbl := tbl_7 _ (List.mem_of_getElem? (i := 116) (by decide +kernel))
theorem wL_126 : Cond.laysFinal RX12 "DarkMineModel" "tubsOf" "[I" ∈ lw_tbl := tbl_7 _ (List.mem_of_getElem? (i := 114) (by decide +kernel))
theorem wL_127 : Cond.laysFinal RX12 "DarkMineModel" "digOf" "[I" ∈ lw_tbl := tbl_7 _ (List.mem_of_getElem? (i := 112) (by decide +kernel))
theorem wL_128 : Cond.laysFinal RX12 "DarkMineModel" "minerOf" "[I" ∈ lw_tbl := tbl_7 _ (List.mem_of_getElem? (i := 110) (by decide +kernel))
theorem wL_129 : Cond.laysFinal RX12 "DarkMineModel" "soldOf" "[I" ∈ lw_tbl := tbl_7 _ (List.mem_of_getElem? (i := 108) (by decide +kernel))
theorem wL_130 : Cond.laysFinal RX12 "DarkMineModel" "hurtOf" "[I" ∈ lw_tbl := tbl_7 _ (List.mem_of_getElem? (i := 106) (by decide +kernel))
theorem wL_131 : Cond.laysFinal RX12 "DarkMineModel" "curtainIn" "[I" ∈ lw_tbl := tbl_7 _ (List.mem_of_getElem? (i := 104) (by decide +kernel))
theorem wL_132 : Cond.laysFinal RX12 "DarkMineModel" "gradeOf" "[I" ∈ lw_tbl := tbl_7 _ (List.mem_of_getElem? (i := 102) (by decide +kernel))
theorem wL_133 : Cond.laysFinal RX12 "DarkMineModel" "purseOf" "[I" ∈ lw_tbl := tbl_7 _ (List.mem_of_getElem? (i := 100) (by decide +kernel))
theorem wL_134 : Cond.laysFinal RX12 "DarkMineModel" "shiftOf" "[I" ∈ lw_tbl := tbl_7 _ (List.mem_of_getElem? (i := 98) (by decide +kernel))
theorem wL_135 : Cond.laysFinal RX12 "DarkMineModel" "refused" "[I" ∈ lw_tbl := tbl_7 _ (List.mem_of_getElem? (i := 96) (by decide +kernel))
theorem wL_136 : Cond.lays RX12 "DarkMineModel" "isSeam" "Z" ∈ lw_tbl := tbl_7 _ (List.mem_of_getElem? (i := 94) (by decide +kernel))
theorem wL_137 : Cond.lays RX12 "DarkMineModel" "operand" "Z" ∈ lw_tbl := tbl_7 _ (List.mem_of_getElem? (i := 92) (by decide +kernel))
theorem wL_138 : Cond.lays RX12 "DarkMineModel" "opMany" "I" ∈ lw_tbl := tbl_7 _ (List.mem_of_getElem? (i := 90) (by decide +kernel))
theorem wL_139 : Cond.laysFinal RX12 "DarkMineModel" "ops" "[I" ∈ lw_tbl := tbl_7 _ (List.mem_of_getElem? (i := 88) (by decide +kernel))
theorem wL_140 : Cond.lays RX12 "DarkMineModel" "open" "I" ∈ lw_tbl := tbl_7 _ (List.mem_of_getElem? (i := 86) (by decide +kernel))
theorem wL_141 : Cond.lays RX12 "DarkMineModel" "deep" "I" ∈ lw_tbl := tbl_7 _ (List.mem_of_getElem? (i := 84) (by decide +kernel))
theorem wL_142 : Cond.laysFinal RX12 "DarkMineModel" "base" "[I" ∈ lw_tbl := tbl_7 _ (List.mem_of_getElem? (i := 82) (by decide +kernel))
theorem wL_143 : Cond.laysFinal RX12 "DarkMineModel" "pair" "[I" ∈ lw_tbl := tbl_7 _ (List.mem_of_getElem? (i := 80) (by decide +kernel))
theorem wL_144 : Cond.laysFinal RX12 "DarkMineModel" "begins" "[Z" ∈ lw_tbl := tbl_7 _ (List.mem_of_getElem? (i := 78) (by decide +kernel))
theorem wL_145 : Cond.laysFinal RX12 "DarkMineModel" "phase" "[I" ∈ lw_tbl := tbl_7 _ (List.mem_of_getElem? (i := 76) (by decide +kernel))
theorem wL_146 : Cond.laysFinal RX12 "DarkMineModel" "frame" "[I" ∈ lw_tbl := tbl_7 _ (List.mem_of_getElem? (i := 74) (by decide +kernel))
theorem wL_147 : Cond.lays RX12 "DarkMineModel" "law" "I" ∈ lw_tbl := tbl_7 _ (List.mem_of_getElem? (i := 72) (by decide +kernel))
theorem wL_148 : Cond.lays RX12 "DarkMineModel" "in" "I" ∈ lw_tbl := tbl_7 _ (List.mem_of_getElem? (i := 70) (by decide +kernel))
theorem wL_149 : Cond.lays RX12 "DarkMineModel" "codes" "I" ∈ lw_tbl := tbl_7 _ (List.mem_of_getElem? (i := 68) (by decide +kernel))
theorem wL_150 : Cond.laysFinal RX12 "DarkMineModel" "orderName" "[J" ∈ lw_tbl := tbl_7 _ (List.mem_of_getElem? (i := 66) (by decide +kernel))
theorem wL_151 : Cond.laysFinal RX12 "DarkMineModel" "minerName" "[J" ∈ lw_tbl := tbl_7 _ (List.mem_of_getElem? (i := 64) (by decide +kernel))
theorem wL_152 : Cond.laysFinal RX12 "DarkMineModel" "codeValue" "[I" ∈ lw_tbl := tbl_7 _ (List.mem_of_getElem? (i := 62) (by decide +kernel))
theorem wL_153 : Cond.laysFinal RX12 "DarkMineModel" "codeSort" "[I" ∈ lw_tbl := tbl_7 _ (List.mem_of_getElem? (i := 60) (by decide +kernel))
theorem wL_154 : Cond.laysFinal RX12 "DarkMineModel" "sumBehind" "[I" ∈ lw_tbl := tbl_7 _ (List.mem_of_getElem? (i := 58) (by decide +kernel))
theorem wL_155 : Cond.laysFinal RX12 "DarkMineModel" "sumFrom" "[I" ∈ lw_tbl := tbl_7 _ (List.mem_of_getElem? (i := 56) (by decide +kernel))
theorem wL_156 : Cond.laysFinal RX12 "DarkMineModel" "orderPays" "[I" ∈ lw_tbl := tbl_7 _ (List.mem_of_getElem? (i := 54) (by decide +kernel))
theorem wL_157 : Cond.laysFinal RX12 "DarkMineModel" "orderTubs" "[I" ∈ lw_tbl := tbl_7 _ (List.mem_of_getElem? (i := 52) (by decide +kernel))
theorem wL_158 : Cond.laysFinal RX12 "DarkMineModel" "orderGrade" "[I" ∈ lw_tbl := tbl_7 _ (List.mem_of_getElem? (i := 50) (by decide +kernel))
theorem wL_159 : Cond.laysFinal RX12 "DarkMineModel" "orders" "[I" ∈ lw_tbl := tbl_7 _ (List.mem_of_getElem? (i := 48) (by decide +kernel))
theorem wL_160 : Cond.laysFinal RX12 "DarkMineModel" "planCell" "[I" ∈ lw_tbl := tbl_7 _ (List.mem_of_getElem? (i := 46) (by decide +kernel))
theorem wL_161 : Cond.laysFinal RX12 "DarkMineModel" "planMiner" "[I" ∈ lw_tbl := tbl_7 _ (List.mem_of_getElem? (i := 44) (by decide +kernel))
theorem wL_162 : Cond.laysFinal RX12 "DarkMineModel" "plans" "[I" ∈ lw_tbl := tbl_7 _ (List.mem_of_getElem? (i := 42) (by decide +kernel))
theorem wL_163 : Cond.laysFinal RX12 "DarkMineModel" "miners" "[I" ∈ lw_tbl := tbl_7 _ (List.mem_of_getElem? (i := 40) (by decide +kernel))
theorem wL_164 : Cond.laysFinal RX12 "DarkMineModel" "gradeTold" "[I" ∈ lw_tbl := tbl_7 _ (List.mem_of_getElem? (i := 38) (by decide +kernel))
theorem wL_165 : Cond.laysFinal RX12 "DarkMineModel" "quakeTold" "[I" ∈ lw_tbl := tbl_7 _ (List.mem_of_getElem? (i := 36) (by decide +kernel))
theorem wL_166 : Cond.laysFinal RX12 "DarkMineModel" "reachTold" "[I" ∈ lw_tbl := tbl_7 _ (List.mem_of_getElem? (i := 34) (by decide +kernel))
theorem wL_167 : Cond.laysFinal RX12 "DarkMineModel" "shaftTold" "[I" ∈ lw_tbl := tbl_7 _ (List.mem_of_getElem? (i := 32) (by decide +kernel))
theorem wL_168 : Cond.laysFinal RX12 "DarkMineModel" "rows" "[I" ∈ lw_tbl := tbl_7 _ (List.mem_of_getElem? (i := 30) (by decide +kernel))
theorem wL_169 : Cond.laysFinal RX12 "DarkMineModel" "columns" "[I" ∈ lw_tbl := tbl_7 _ (List.mem_of_getElem? (i := 28) (by decide +kernel))
theorem wL_170 : Cond.lays RX12 "DarkMineModel" "bank" "I" ∈ lw_tbl := tbl_7 _ (List.mem_of_getElem? (i := 26) (by decide +kernel))
theorem wL_171 : Cond.lays RX12 "DarkMineModel" "lexAt" "I" ∈ lw_tbl := tbl_7 _ (List.mem_of_getElem? (i := 24) (by decide +kernel))
theorem wL_172 : Cond.lays RX12 "DarkMineModel" "toldPlace" "I" ∈ lw_tbl := tbl_7 _ (List.mem_of_getElem? (i := 22) (by decide +kernel))
theorem wL_173 : Cond.lays RX12 "DarkMineModel" "toldKind" "I" ∈ lw_tbl := tbl_7 _ (List.mem_of_getElem? (i := 20) (by decide +kernel))
theorem wL_174 : Cond.lays RX12 "DarkMineModel" "faultPlace" "I" ∈ lw_tbl := tbl_7 _ (List.mem_of_getElem? (i := 18) (by decide +kernel))
theorem wL_175 : Cond.lays RX12 "DarkMineModel" "faultKind" "I" ∈ lw_tbl := tbl_7 _ (List.mem_of_getElem? (i := 16) (by decide +kernel))
theorem wL_176 : Cond.lays RX12 "DarkMineModel" "word" "J" ∈ lw_tbl := tbl_7 _ (List.mem_of_getElem? (i := 14) (by decide +kernel))
theorem wL_177 : Cond.lays RX12 "DarkMineModel" "value" "I" ∈ lw_tbl := tbl_7 _ (List.mem_of_getElem? (i := 12) (by decide +kernel))
theorem wL_178 : Cond.lays RX12 "DarkMineModel" "signEnd" "I" ∈ lw_tbl := tbl_7 _ (List.mem_of_getElem? (i := 10) (by decide +kernel))
theorem wL_179 : Cond.lays RX12 "DarkMineModel" "signAt" "I" ∈ lw_tbl := tbl_7 _ (List.mem_of_getElem? (i := 8) (by decide +kernel))
theorem wL_180 : Cond.lays RX12 "DarkMineModel" "sign" "I" ∈ lw_tbl := tbl_7 _ (List.mem_of_getElem? (i := 6) (by decide +kernel))
theorem wL_181 : Cond.lays RX12 "DarkMineModel" "size" "I" ∈ lw_tbl := tbl_7 _ (List.mem_of_getElem? (i := 4) (by decide +kernel))
theorem wL_182 : Cond.lays RX12 "DarkMineModel" "taped" "I" ∈ lw_tbl := tbl_7 _ (List.mem_of_getElem? (i := 2) (by decide +kernel))
theorem wL_183 : Cond.laysFinal RX12 "DarkMineModel" "tape" "[I" ∈ lw_tbl := tbl_7 _ (List.mem_of_getElem? (i := 0) (by decide +kernel))
theorem wN_wsX00 : ∀ w ∈ wsX00, w ∈ lw_tbl := by
  show ∀ w ∈ [Cond.laysFinal RX0 "DarkMine$Feeling" "works" "LDarkMine$Works;", Cond.laysFinal RX0 "DarkMine$Feeling" "rows" "[I", Cond.laysFinal RX0 "DarkMine$Feeling" "pits" "[LDarkMine$Pit;", Cond.laysFinal RX0 "DarkMine$Feeling" "tally" "[I", Cond.lays RX0 "DarkMine$Feeling" "isTold" "Z", Cond.lays RX0 "DarkMine$Feeling" "count" "I", Cond.lays RX0 "DarkMine$Feeling" "tellingShifts" "I", Cond.lays RX0 "DarkMine$Feeling" "tellingPlace" "I", Cond.lays RX0 "DarkMine$Feeling" "tellingLeft" "I"], w ∈ lw_tbl
  exact (dk_cons wL_8 (dk_cons wL_7 (dk_cons wL_6 (dk_cons wL_5 (dk_cons wL_4 (dk_cons wL_3 (dk_cons wL_2 (dk_cons wL_1 (dk_cons wL_0 (fun _ h => absurd h List.not_mem_nil))))))))))
theorem wN_wsX10 : ∀ w ∈ wsX10, w ∈ lw_tbl := by
  show ∀ w ∈ [Cond.laysFinal RX1 "DarkMine$Foresight" "works" "LDarkMine$Works;", Cond.laysFinal RX1 "DarkMine$Foresight" "trial" "LDarkMine$Pit;", Cond.lays RX1 "DarkMine$Foresight" "shadeFor" "I", Cond.lays RX1 "DarkMine$Foresight" "changeFor" "I", Cond.lays RX1 "DarkMine$Foresight" "shadePlace" "I", Cond.lays RX1 "DarkMine$Foresight" "shadeWorth" "I", Cond.lays RX1 "DarkMine$Foresight" "changeRow" "I", Cond.lays RX1 "DarkMine$Foresight" "changeOther" "I", Cond.lays RX1 "DarkMine$Foresight" "changeGrades" "I"], w ∈ lw_tbl
  exact (dk_cons wL_17 (dk_cons wL_16 (dk_cons wL_15 (dk_cons wL_14 (dk_cons wL_13 (dk_cons wL_12 (dk_cons wL_11 (dk_cons wL_10 (dk_cons wL_9 (fun _ h => absurd h List.not_mem_nil))))))))))
theorem wN_wsX20 : ∀ w ∈ wsX20, w ∈ lw_tbl := by
  show ∀ w ∈ [Cond.lays RX2 "DarkMine$Ground" "columns" "I", Cond.lays RX2 "DarkMine$Ground" "rows" "I", Cond.lays RX2 "DarkMine$Ground" "shaftPlace" "I", Cond.lays RX2 "DarkMine$Ground" "reach" "I", Cond.lays RX2 "DarkMine$Ground" "quake" "I", Cond.laysFinal RX2 "DarkMine$Ground" "grades" "[I", Cond.lays RX2 "DarkMine$Ground" "miners" "I", Cond.laysFinal RX2 "DarkMine$Ground" "minerNames" "[I", Cond.lays RX2 "DarkMine$Ground" "planRows" "I", Cond.laysFinal RX2 "DarkMine$Ground" "planMiners" "[I", Cond.laysFinal RX2 "DarkMine$Ground" "planPlaces" "[I", Cond.lays RX2 "DarkMine$Ground" "orders" "I", Cond.laysFinal RX2 "DarkMine$Ground" "orderNames" "[I", Cond.laysFinal RX2 "DarkMine$Ground" "orderGrades" "[I", Cond.laysFinal RX2 "DarkMine$Ground" "orderTubs" "[I", Cond.laysFinal RX2 "DarkMine$Ground" "orderPays" "[I", Cond.laysFinal RX2 "DarkMine$Ground" "steps" "[I", Cond.laysFinal RX2 "DarkMine$Ground" "ruleFrom" "[I", Cond.laysFinal RX2 "DarkMine$Ground" "ruleEnd" "[I"], w ∈ lw_tbl
  exact (dk_cons wL_36 (dk_cons wL_35 (dk_cons wL_34 (dk_cons wL_33 (dk_cons wL_32 (dk_cons wL_31 (dk_cons wL_30 (dk_cons wL_29 (dk_cons wL_28 (dk_cons wL_27 (dk_cons wL_26 (dk_cons wL_25 (dk_cons wL_24 (dk_cons wL_23 (dk_cons wL_22 (dk_cons wL_21 (dk_cons wL_20 (dk_cons wL_19 (dk_cons wL_18 (fun _ h => absurd h List.not_mem_nil))))))))))))))))))))
theorem wN_wsX30 : ∀ w ∈ wsX30, w ∈ lw_tbl := by
  show ∀ w ∈ [Cond.laysFinal RX3 "DarkMine$History" "keptParts" "[I", Cond.lays RX3 "DarkMine$History" "keptCount" "I", Cond.lays RX3 "DarkMine$History" "acts" "I", Cond.lays RX3 "DarkMine$History" "next" "I", Cond.laysFinal RX3 "DarkMine$History" "pits" "[LDarkMine$Pit;", Cond.laysFinal RX3 "DarkMine$History" "keptAhead" "[[I", Cond.laysFinal RX3 "DarkMine$History" "keptCountAhead" "[I"], w ∈ lw_tbl
  exact (dk_cons wL_43 (dk_cons wL_42 (dk_cons wL_41 (dk_cons wL_40 (dk_cons wL_39 (dk_cons wL_38 (dk_cons wL_37 (fun _ h => absurd h List.not_mem_nil))))))))
theorem wN_wsX40 : ∀ w ∈ wsX40, w ∈ lw_tbl := by
  show ∀ w ∈ [Cond.laysFinal RX4 "DarkMine$Image" "bytes" "[I", Cond.lays RX4 "DarkMine$Image" "length" "I", Cond.laysFinal RX4 "DarkMine$Image" "tape" "LDarkMine$Tape;", Cond.lays RX4 "DarkMine$Image" "sum" "I", Cond.lays RX4 "DarkMine$Image" "at" "I", Cond.lays RX4 "DarkMine$Image" "fits" "Z"], w ∈ lw_tbl
  exact (dk_cons wL_49 (dk_cons wL_48 (dk_cons wL_47 (dk_cons wL_46 (dk_cons wL_45 (dk_cons wL_44 (fun _ h => absurd h List.not_mem_nil)))))))
theorem wN_wsX50 : ∀ w ∈ wsX50, w ∈ lw_tbl := by
  show ∀ w ∈ [Cond.lays RX5 "DarkMine$Pit" "shift" "I", Cond.lays RX5 "DarkMine$Pit" "purse" "I", Cond.laysFinal RX5 "DarkMine$Pit" "cells" "[I", Cond.laysFinal RX5 "DarkMine$Pit" "hurts" "[I", Cond.laysFinal RX5 "DarkMine$Pit" "planMiners" "[I", Cond.laysFinal RX5 "DarkMine$Pit" "planPlaces" "[I", Cond.laysFinal RX5 "DarkMine$Pit" "sold" "[I", Cond.laysFinal RX5 "DarkMine$Pit" "tubCounts" "[I"], w ∈ lw_tbl
  exact (dk_cons wL_57 (dk_cons wL_56 (dk_cons wL_55 (dk_cons wL_54 (dk_cons wL_53 (dk_cons wL_52 (dk_cons wL_51 (dk_cons wL_50 (fun _ h => absurd h List.not_mem_nil)))))))))
theorem wN_wsX60 : ∀ w ∈ wsX60, w ∈ lw_tbl := by
  show ∀ w ∈ [Cond.lays RX6 "DarkMine$Reader" "fault" "I", Cond.lays RX6 "DarkMine$Reader" "faultAt" "I", Cond.laysFinal RX6 "DarkMine$Reader" "words" "LDarkMine$Words;", Cond.lays RX6 "DarkMine$Reader" "ground" "LDarkMine$Ground;", Cond.lays RX6 "DarkMine$Reader" "next" "I", Cond.lays RX6 "DarkMine$Reader" "value" "I", Cond.lays RX6 "DarkMine$Reader" "rule" "I", Cond.lays RX6 "DarkMine$Reader" "stepCount" "I"], w ∈ lw_tbl
  exact (dk_cons wL_65 (dk_cons wL_64 (dk_cons wL_63 (dk_cons wL_62 (dk_cons wL_61 (dk_cons wL_60 (dk_cons wL_59 (dk_cons wL_58 (fun _ h => absurd h List.not_mem_nil)))))))))
theorem wN_wsX70 : ∀ w ∈ wsX70, w ∈ lw_tbl := by
  show ∀ w ∈ [Cond.lays RX7 "DarkMine$Rules" "grade" "I", Cond.lays RX7 "DarkMine$Rules" "depth" "I", Cond.lays RX7 "DarkMine$Rules" "shift" "I", Cond.lays RX7 "DarkMine$Rules" "far" "I", Cond.lays RX7 "DarkMine$Rules" "open" "I", Cond.lays RX7 "DarkMine$Rules" "lit" "I", Cond.laysFinal RX7 "DarkMine$Rules" "stack" "[I", Cond.lays RX7 "DarkMine$Rules" "top" "I"], w ∈ lw_tbl
  exact (dk_cons wL_73 (dk_cons wL_72 (dk_cons wL_71 (dk_cons wL_70 (dk_cons wL_69 (dk_cons wL_68 (dk_cons wL_67 (dk_cons wL_66 (fun _ h => absurd h List.not_mem_nil)))))))))
theorem wN_wsX80 : ∀ w ∈ wsX80, w ∈ lw_tbl := by
  show ∀ w ∈ [Cond.laysFinal RX8 "DarkMine$Tape" "bytes" "[I", Cond.lays RX8 "DarkMine$Tape" "length" "I"], w ∈ lw_tbl
  exact (dk_cons wL_75 (dk_cons wL_74 (fun _ h => absurd h List.not_mem_nil)))
theorem wN_wsX90 : ∀ w ∈ wsX90, w ∈ lw_tbl := by
  show ∀ w ∈ [Cond.laysFinal RX9 "DarkMine$Words" "kinds" "[I", Cond.laysFinal RX9 "DarkMine$Words" "starts" "[I", Cond.laysFinal RX9 "DarkMine$Words" "values" "[I", Cond.lays RX9 "DarkMine$Words" "count" "I", Cond.lays RX9 "DarkMine$Words" "plainEnd" "I"], w ∈ lw_tbl
  exact (dk_cons wL_80 (dk_cons wL_79 (dk_cons wL_78 (dk_cons wL_77 (dk_cons wL_76 (fun _ h => absurd h List.not_mem_nil))))))
theorem wN_wsX100 : ∀ w ∈ wsX100, w ∈ lw_tbl := by
  show ∀ w ∈ [Cond.laysFinal RX10 "DarkMine$Works" "rules" "LDarkMine$Rules;", Cond.laysFinal RX10 "DarkMine$Works" "far" "[I", Cond.laysFinal RX10 "DarkMine$Works" "beam" "[I", Cond.laysFinal RX10 "DarkMine$Works" "exposed" "[I", Cond.lays RX10 "DarkMine$Works" "exposedCount" "I", Cond.laysFinal RX10 "DarkMine$Works" "queue" "[I", Cond.lays RX10 "DarkMine$Works" "ground" "LDarkMine$Ground;", Cond.lays RX10 "DarkMine$Works" "pit" "LDarkMine$Pit;", Cond.lays RX10 "DarkMine$Works" "reach" "I", Cond.lays RX10 "DarkMine$Works" "stale" "Z", Cond.lays RX10 "DarkMine$Works" "dugMiner" "I", Cond.lays RX10 "DarkMine$Works" "dugPlace" "I", Cond.lays RX10 "DarkMine$Works" "dugGrade" "I"], w ∈ lw_tbl
  exact (dk_cons wL_93 (dk_cons wL_92 (dk_cons wL_91 (dk_cons wL_90 (dk_cons wL_89 (dk_cons wL_88 (dk_cons wL_87 (dk_cons wL_86 (dk_cons wL_85 (dk_cons wL_84 (dk_cons wL_83 (dk_cons wL_82 (dk_cons wL_81 (fun _ h => absurd h List.not_mem_nil))))))))))))))
theorem wN_wsX110 : ∀ w ∈ wsX110, w ∈ lw_tbl := by
  show ∀ w ∈ [Cond.laysFinal RX11 "DarkMine" "tape" "LDarkMine$Tape;", Cond.laysFinal RX11 "DarkMine" "pit" "LDarkMine$Pit;", Cond.laysFinal RX11 "DarkMine" "trial" "LDarkMine$Pit;", Cond.laysFinal RX11 "DarkMine" "history" "LDarkMine$History;", Cond.laysFinal RX11 "DarkMine" "picture" "LDarkMine$Image;", Cond.laysFinal RX11 "DarkMine" "refusals" "[I", Cond.lays RX11 "DarkMine" "ground" "LDarkMine$Ground;", Cond.lays RX11 "DarkMine" "spareGround" "LDarkMine$Ground;", Cond.laysFinal RX11 "DarkMine" "reader" "LDarkMine$Reader;", Cond.laysFinal RX11 "DarkMine" "works" "LDarkMine$Works;", Cond.laysFinal RX11 "DarkMine" "foresight" "LDarkMine$Foresight;", Cond.laysFinal RX11 "DarkMine" "feeling" "LDarkMine$Feeling;", Cond.lays RX11 "DarkMine" "drawn" "I"], w ∈ lw_tbl
  exact (dk_cons wL_106 (dk_cons wL_105 (dk_cons wL_104 (dk_cons wL_103 (dk_cons wL_102 (dk_cons wL_101 (dk_cons wL_100 (dk_cons wL_99 (dk_cons wL_98 (dk_cons wL_97 (dk_cons wL_96 (dk_cons wL_95 (dk_cons wL_94 (fun _ h => absurd h List.not_mem_nil))))))))))))))
theorem wN_wsX120 : ∀ w ∈ wsX120, w ∈ lw_tbl := by
  show ∀ w ∈ [Cond.laysFinal RX12 "DarkMineModel" "tape" "[I", Cond.lays RX12 "DarkMineModel" "taped" "I", Cond.lays RX12 "DarkMineModel" "size" "I", Cond.lays RX12 "DarkMineModel" "sign" "I", Cond.lays RX12 "DarkMineModel" "signAt" "I", Cond.lays RX12 "DarkMineModel" "signEnd" "I", Cond.lays RX12 "DarkMineModel" "value" "I", Cond.lays RX12 "DarkMineModel" "word" "J", Cond.lays RX12 "DarkMineModel" "faultKind" "I", Cond.lays RX12 "DarkMineModel" "faultPlace" "I", Cond.lays RX12 "DarkMineModel" "toldKind" "I", Cond.lays RX12 "DarkMineModel" "toldPlace" "I", Cond.lays RX12 "DarkMineModel" "lexAt" "I", Cond.lays RX12 "DarkMineModel" "bank" "I", Cond.laysFinal RX12 "DarkMineModel" "columns" "[I", Cond.laysFinal RX12 "DarkMineModel" "rows" "[I", Cond.laysFinal RX12 "DarkMineModel" "shaftTold" "[I", Cond.laysFinal RX12 "DarkMineModel" "reachTold" "[I", Cond.laysFinal RX12 "DarkMineModel" "quakeTold" "[I", Cond.laysFinal RX12 "DarkMineModel" "gradeTold" "[I", Cond.laysFinal RX12 "DarkMineModel" "miners" "[I", Cond.laysFinal RX12 "DarkMineModel" "plans" "[I", Cond.laysFinal RX12 "DarkMineModel" "planMiner" "[I", Cond.laysFinal RX12 "DarkMineModel" "planCell" "[I", Cond.laysFinal RX12 "DarkMineModel" "orders" "[I", Cond.laysFinal RX12 "DarkMineModel" "orderGrade" "[I", Cond.laysFinal RX12 "DarkMineModel" "orderTubs" "[I", Cond.laysFinal RX12 "DarkMineModel" "orderPays" "[I", Cond.laysFinal RX12 "DarkMineModel" "sumFrom" "[I", Cond.laysFinal RX12 "DarkMineModel" "sumBehind" "[I", Cond.laysFinal RX12 "DarkMineModel" "codeSort" "[I", Cond.laysFinal RX12 "DarkMineModel" "codeValue" "[I", Cond.laysFinal RX12 "DarkMineModel" "minerName" "[J", Cond.laysFinal RX12 "DarkMineModel" "orderName" "[J", Cond.lays RX12 "DarkMineModel" "codes" "I", Cond.lays RX12 "DarkMineModel" "in" "I", Cond.lays RX12 "DarkMineModel" "law" "I", Cond.laysFinal RX12 "DarkMineModel" "frame" "[I", Cond.laysFinal RX12 "DarkMineModel" "phase" "[I", Cond.laysFinal RX12 "DarkMineModel" "begins" "[Z", Cond.laysFinal RX12 "DarkMineModel" "pair" "[I", Cond.laysFinal RX12 "DarkMineModel" "base" "[I", Cond.lays RX12 "DarkMineModel" "deep" "I", Cond.lays RX12 "DarkMineModel" "open" "I", Cond.laysFinal RX12 "DarkMineModel" "ops" "[I", Cond.lays RX12 "DarkMineModel" "opMany" "I", Cond.lays RX12 "DarkMineModel" "operand" "Z", Cond.lays RX12 "DarkMineModel" "isSeam" "Z", Cond.laysFinal RX12 "DarkMineModel" "refused" "[I", Cond.laysFinal RX12 "DarkMineModel" "shiftOf" "[I", Cond.laysFinal RX12 "DarkMineModel" "purseOf" "[I", Cond.laysFinal RX12 "DarkMineModel" "gradeOf" "[I", Cond.laysFinal RX12 "DarkMineModel" "curtainIn" "[I", Cond.laysFinal RX12 "DarkMineModel" "hurtOf" "[I", Cond.laysFinal RX12 "DarkMineModel" "soldOf" "[I", Cond.laysFinal RX12 "DarkMineModel" "minerOf" "[I", Cond.laysFinal RX12 "DarkMineModel" "digOf" "[I", Cond.laysFinal RX12 "DarkMineModel" "tubsOf" "[I", Cond.laysFinal RX12 "DarkMineModel" "keptMany" "[I", Cond.laysFinal RX12 "DarkMineModel" "keptRow" "[I", Cond.lays RX12 "DarkMineModel" "undoFirst" "I", Cond.lays RX12 "DarkMineModel" "undos" "I", Cond.lays RX12 "DarkMineModel" "seeds" "J", Cond.lays RX12 "DarkMineModel" "reachNow" "I", Cond.laysFinal RX12 "DarkMineModel" "stack" "[J", Cond.laysFinal RX12 "DarkMineModel" "asked" "[I", Cond.laysFinal RX12 "DarkMineModel" "farOf" "[I", Cond.laysFinal RX12 "DarkMineModel" "queue" "[I", Cond.laysFinal RX12 "DarkMineModel" "lessBy" "[I", Cond.lays RX12 "DarkMineModel" "feltMany" "I", Cond.laysFinal RX12 "DarkMineModel" "feltShifts" "[I", Cond.laysFinal RX12 "DarkMineModel" "feltCell" "[I", Cond.laysFinal RX12 "DarkMineModel" "feltGrade" "[I", Cond.laysFinal RX12 "DarkMineModel" "gradeBy" "[I", Cond.laysFinal RX12 "DarkMineModel" "many" "[I", Cond.laysFinal RX12 "DarkMineModel" "out" "[I", Cond.lays RX12 "DarkMineModel" "outs" "I"], w ∈ lw_tbl
  exact (dk_cons wL_183 (dk_cons wL_182 (dk_cons wL_181 (dk_cons wL_180 (dk_cons wL_179 (dk_cons wL_178 (dk_cons wL_177 (dk_cons wL_176 (dk_cons wL_175 (dk_cons wL_174 (dk_cons wL_173 (dk_cons wL_172 (dk_cons wL_171 (dk_cons wL_170 (dk_cons wL_169 (dk_cons wL_168 (dk_cons wL_167 (dk_cons wL_166 (dk_cons wL_165 (dk_cons wL_164 (dk_cons wL_163 (dk_cons wL_162 (dk_cons wL_161 (dk_cons wL_160 (dk_cons wL_159 (dk_cons wL_158 (dk_cons wL_157 (dk_cons wL_156 (dk_cons wL_155 (dk_cons wL_154 (dk_cons wL_153 (dk_cons wL_152 (dk_cons wL_151 (dk_cons wL_150 (dk_cons wL_149 (dk_cons wL_148 (dk_cons wL_147 (dk_cons wL_146 (dk_cons wL_145 (dk_cons wL_144 (dk_cons wL_143 (dk_cons wL_142 (dk_cons wL_141 (dk_cons wL_140 (dk_cons wL_139 (dk_cons wL_138 (dk_cons wL_137 (dk_cons wL_136 (dk_cons wL_135 (dk_cons wL_134 (dk_cons wL_133 (dk_cons wL_132 (dk_cons wL_131 (dk_cons wL_130 (dk_cons wL_129 (dk_cons wL_128 (dk_cons wL_127 (dk_cons wL_126 (dk_cons wL_125 (dk_cons wL_124 (dk_cons wL_123 (dk_cons wL_122 (dk_cons wL_121 (dk_cons wL_120 (dk_cons wL_119 (dk_cons wL_118 (dk_cons wL_117 (dk_cons wL_116 (dk_cons wL_115 (dk_cons wL_114 (dk_cons wL_113 (dk_cons wL_112 (dk_cons wL_111 (dk_cons wL_110 (dk_cons wL_109 (dk_cons wL_108 (dk_cons wL_107 (fun _ h => absurd h List.not_mem_nil))))))))))))))))))))))))))))))))))))))))))))))))))))))))))))))))))))))))))))))
theorem wU_X0 : ∀ w ∈ wsX00, w ∈ dgB := fun w h => List.mem_filter.mpr ⟨wN_wsX00 w h, List.all_eq_true.mp (show (wsX00).all goodWord = true by decide +kernel) w h⟩
theorem wU_X1 : ∀ w ∈ wsX10, w ∈ dgB := fun w h => List.mem_filter.mpr ⟨wN_wsX10 w h, List.all_eq_true.mp (show (wsX10).all goodWord = true by decide +kernel) w h⟩
theorem wU_X2 : ∀ w ∈ wsX20, w ∈ dgB := fun w h => List.mem_filter.mpr ⟨wN_wsX20 w h, List.all_eq_true.mp (show (wsX20).all goodWord = true by decide +kernel) w h⟩
theorem wU_X3 : ∀ w ∈ wsX30, w ∈ dgB := fun w h => List.mem_filter.mpr ⟨wN_wsX30 w h, List.all_eq_true.mp (show (wsX30).all goodWord = true by decide +kernel) w h⟩
theorem wU_X4 : ∀ w ∈ wsX40, w ∈ dgB := fun w h => List.mem_filter.mpr ⟨wN_wsX40 w h, List.all_eq_true.mp (show (wsX40).all goodWord = true by decide +kernel) w h⟩
theorem wU_X5 : ∀ w ∈ wsX50, w ∈ dgB := fun w h => List.mem_filter.mpr ⟨wN_wsX50 w h, List.all_eq_true.mp (show (wsX50).all goodWord = true by decide +kernel) w h⟩
theorem wU_X6 : ∀ w ∈ wsX60, w ∈ dgB := fun w h => List.mem_filter.mpr ⟨wN_wsX60 w h, List.all_eq_true.mp (show (wsX60).all goodWord = true by decide +kernel) w h⟩
theorem wU_X7 : ∀ w ∈ wsX70, w ∈ dgB := fun w h => List.mem_filter.mpr ⟨wN_wsX70 w h, List.all_eq_true.mp (show (wsX70).all goodWord = true by decide +kernel) w h⟩
theorem wU_X8 : ∀ w ∈ wsX80, w ∈ dgB := fun w h => List.mem_filter.mpr ⟨wN_wsX80 w h, List.all_eq_true.mp (show (wsX80).all goodWord = true by decide +kernel) w h⟩
theorem wU_X9 : ∀ w ∈ wsX90, w ∈ dgB := fun w h => List.mem_filter.mpr ⟨wN_wsX90 w h, List.all_eq_true.mp (show (wsX90).all goodWord = true by decide +kernel) w h⟩
theorem wU_X10 : ∀ w ∈ wsX100, w ∈ dgB := fun w h => List.mem_filter.mpr ⟨wN_wsX100 w h, List.all_eq_true.mp (show (wsX100).all goodWord = true by decide +kernel) w h⟩
theorem wU_X11 : ∀ w ∈ wsX110, w ∈ dgB := fun w h => List.mem_filter.mpr ⟨wN_wsX110 w h, List.all_eq_true.mp (show (wsX110).all goodWord = true by decide +kernel) w h⟩
theorem wU_X12 : ∀ w ∈ wsX120, w ∈ dgB := fun w h => List.mem_filter.mpr ⟨wN_wsX120 w h, List.all_eq_true.mp (show (wsX120).all goodWord = true by decide +kernel) w h⟩
