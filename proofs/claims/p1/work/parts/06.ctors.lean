/-! 06.ctors.lean.txt -/
def wsX1_init : List Cond := .code yX1_init cX1_init 2 none :: ([.methodLink RX1 3 objectInit, .instanceMethod objectInit, .code objectInit ⟨#[0xb1]⟩ 1 none, .classLink RX1 9 RX5, .instantiable RX5 8, .initialized RX5, .fieldLink RX1 12 "DarkMine$Foresight" "trial" "LDarkMine$Pit;", .fieldLink RX1 18 "DarkMine$Foresight" "shadePlace" "I", .fieldLink RX1 22 "DarkMine$Foresight" "shadeWorth" "I", .fieldLink RX1 25 "DarkMine$Foresight" "changeRow" "I", .fieldLink RX1 28 "DarkMine$Foresight" "changeOther" "I", .fieldLink RX1 31 "DarkMine$Foresight" "changeGrades" "I", .fieldLink RX1 34 "DarkMine$Foresight" "works" "LDarkMine$Works;", .instanceMethod yX5_init, .code yX5_init cX5_init 1 none, .methodLink RX5 3 objectInit, .arrayClass .int, .fieldLink RX5 9 "DarkMine$Pit" "cells" "[I", .fieldLink RX5 15 "DarkMine$Pit" "hurts" "[I", .fieldLink RX5 18 "DarkMine$Pit" "planMiners" "[I", .fieldLink RX5 21 "DarkMine$Pit" "planPlaces" "[I", .fieldLink RX5 24 "DarkMine$Pit" "sold" "[I", .fieldLink RX5 27 "DarkMine$Pit" "tubCounts" "[I"] ++ wsX50 ++ wsX10)
def wsX2_init : List Cond := .code yX2_init cX2_init 1 none :: ([.methodLink RX2 3 objectInit, .instanceMethod objectInit, .code objectInit ⟨#[0xb1]⟩ 1 none, .fieldLink RX2 9 "DarkMine$Ground" "shaftPlace" "I", .arrayClass .int, .fieldLink RX2 15 "DarkMine$Ground" "grades" "[I", .fieldLink RX2 19 "DarkMine$Ground" "minerNames" "[I", .fieldLink RX2 22 "DarkMine$Ground" "planMiners" "[I", .fieldLink RX2 25 "DarkMine$Ground" "planPlaces" "[I", .fieldLink RX2 28 "DarkMine$Ground" "orderNames" "[I", .fieldLink RX2 31 "DarkMine$Ground" "orderGrades" "[I", .fieldLink RX2 34 "DarkMine$Ground" "orderTubs" "[I", .fieldLink RX2 37 "DarkMine$Ground" "orderPays" "[I", .fieldLink RX2 40 "DarkMine$Ground" "steps" "[I", .fieldLink RX2 43 "DarkMine$Ground" "ruleFrom" "[I", .fieldLink RX2 46 "DarkMine$Ground" "ruleEnd" "[I"] ++ wsX20)
def wsX4_init : List Cond := .code yX4_init cX4_init 2 none :: ([.methodLink RX4 3 objectInit, .instanceMethod objectInit, .code objectInit ⟨#[0xb1]⟩ 1 none, .arrayClass .int, .fieldLink RX4 9 "DarkMine$Image" "bytes" "[I", .fieldLink RX4 15 "DarkMine$Image" "tape" "LDarkMine$Tape;"] ++ wsX40)
def wsX9_init : List Cond := .code yX9_init cX9_init 1 none :: ([.methodLink RX9 3 objectInit, .instanceMethod objectInit, .code objectInit ⟨#[0xb1]⟩ 1 none, .arrayClass .int, .fieldLink RX9 9 "DarkMine$Words" "kinds" "[I", .fieldLink RX9 15 "DarkMine$Words" "starts" "[I", .fieldLink RX9 18 "DarkMine$Words" "values" "[I"] ++ wsX90)
def wsX6_init : List Cond := .code yX6_init cX6_init 2 none :: ([.methodLink RX6 3 objectInit, .instanceMethod objectInit, .code objectInit ⟨#[0xb1]⟩ 1 none, .fieldLink RX6 9 "DarkMine$Reader" "faultAt" "I", .classLink RX6 15 RX9, .instantiable RX9 5, .initialized RX9, .fieldLink RX6 18 "DarkMine$Reader" "words" "LDarkMine$Words;", .fieldLink RX6 22 "DarkMine$Reader" "ground" "LDarkMine$Ground;", .instanceMethod yX9_init, .code yX9_init cX9_init 1 none, .methodLink RX9 3 objectInit, .arrayClass .int, .fieldLink RX9 9 "DarkMine$Words" "kinds" "[I", .fieldLink RX9 15 "DarkMine$Words" "starts" "[I", .fieldLink RX9 18 "DarkMine$Words" "values" "[I"] ++ wsX60 ++ wsX90)
def wsX7_init : List Cond := .code yX7_init cX7_init 1 none :: ([.methodLink RX7 3 objectInit, .instanceMethod objectInit, .code objectInit ⟨#[0xb1]⟩ 1 none, .arrayClass .int, .fieldLink RX7 11 "DarkMine$Rules" "stack" "[I"] ++ wsX70)
def wsX10_init : List Cond := .code yX10_init cX10_init 3 none :: ([.methodLink RX10 3 objectInit, .instanceMethod objectInit, .code objectInit ⟨#[0xb1]⟩ 1 none, .classLink RX10 9 RX7, .instantiable RX7 8, .initialized RX7, .fieldLink RX10 12 "DarkMine$Works" "rules" "LDarkMine$Rules;", .arrayClass .int, .fieldLink RX10 18 "DarkMine$Works" "far" "[I", .fieldLink RX10 22 "DarkMine$Works" "beam" "[I", .fieldLink RX10 25 "DarkMine$Works" "exposed" "[I", .fieldLink RX10 28 "DarkMine$Works" "queue" "[I", .fieldLink RX10 31 "DarkMine$Works" "dugMiner" "I", .fieldLink RX10 35 "DarkMine$Works" "dugPlace" "I", .fieldLink RX10 38 "DarkMine$Works" "dugGrade" "I", .fieldLink RX10 41 "DarkMine$Works" "ground" "LDarkMine$Ground;", .fieldLink RX10 45 "DarkMine$Works" "pit" "LDarkMine$Pit;", .fieldLink RX10 49 "DarkMine$Works" "stale" "Z", .instanceMethod yX7_init, .code yX7_init cX7_init 1 none, .methodLink RX7 3 objectInit, .fieldLink RX7 11 "DarkMine$Rules" "stack" "[I"] ++ wsX70 ++ wsX100)
set_option maxRecDepth 20000 in
theorem ggX1_init_X5_init : GoodIn wsX1_init wsX5_init := goodIn_r _ [15, 16, 2, 3, 17, 18, 19, 20, 21, 22, 23, 24, 25, 26, 27, 28, 29, 30, 31] (by decide +kernel) (by decide +kernel)
set_option maxRecDepth 20000 in
theorem gX1_init_X5_init_n11 : GoodIn wsX1_init (wsX5_init) := ggX1_init_X5_init
theorem dX1_init_0 : decode cX1_init 0 = .ok (.aload_n 0, 1) := by decide +kernel
theorem dX1_init_1 : decode cX1_init 1 = .ok (.invokespecial 3, 3) := by decide +kernel
theorem dX1_init_4 : decode cX1_init 4 = .ok (.aload_n 0, 1) := by decide +kernel
theorem dX1_init_5 : decode cX1_init 5 = .ok (.new 9, 3) := by decide +kernel
theorem dX1_init_8 : decode cX1_init 8 = .ok (.dup, 1) := by decide +kernel
theorem dX1_init_9 : decode cX1_init 9 = .ok (.invokespecial 11, 3) := by decide +kernel
theorem dX1_init_12 : decode cX1_init 12 = .ok (.putfield 12, 3) := by decide +kernel
theorem dX1_init_15 : decode cX1_init 15 = .ok (.aload_n 0, 1) := by decide +kernel
theorem dX1_init_16 : decode cX1_init 16 = .ok (.iconst (-1), 1) := by decide +kernel
theorem dX1_init_17 : decode cX1_init 17 = .ok (.putfield 18, 3) := by decide +kernel
theorem dX1_init_20 : decode cX1_init 20 = .ok (.aload_n 0, 1) := by decide +kernel
theorem dX1_init_21 : decode cX1_init 21 = .ok (.iconst (-1), 1) := by decide +kernel
theorem dX1_init_22 : decode cX1_init 22 = .ok (.putfield 22, 3) := by decide +kernel
theorem dX1_init_25 : decode cX1_init 25 = .ok (.aload_n 0, 1) := by decide +kernel
theorem dX1_init_26 : decode cX1_init 26 = .ok (.iconst (-1), 1) := by decide +kernel
theorem dX1_init_27 : decode cX1_init 27 = .ok (.putfield 25, 3) := by decide +kernel
theorem dX1_init_30 : decode cX1_init 30 = .ok (.aload_n 0, 1) := by decide +kernel
theorem dX1_init_31 : decode cX1_init 31 = .ok (.iconst (-1), 1) := by decide +kernel
theorem dX1_init_32 : decode cX1_init 32 = .ok (.putfield 28, 3) := by decide +kernel
theorem dX1_init_35 : decode cX1_init 35 = .ok (.aload_n 0, 1) := by decide +kernel
theorem dX1_init_36 : decode cX1_init 36 = .ok (.iconst (-1), 1) := by decide +kernel
theorem dX1_init_37 : decode cX1_init 37 = .ok (.putfield 31, 3) := by decide +kernel
theorem dX1_init_40 : decode cX1_init 40 = .ok (.aload_n 0, 1) := by decide +kernel
theorem dX1_init_41 : decode cX1_init 41 = .ok (.aload_n 1, 1) := by decide +kernel
theorem dX1_init_42 : decode cX1_init 42 = .ok (.putfield 34, 3) := by decide +kernel
theorem dX1_init_45 : decode cX1_init 45 = .ok (.return_, 1) := by decide +kernel
theorem dX2_init_0 : decode cX2_init 0 = .ok (.aload_n 0, 1) := by decide +kernel
theorem dX2_init_1 : decode cX2_init 1 = .ok (.invokespecial 3, 3) := by decide +kernel
theorem dX2_init_4 : decode cX2_init 4 = .ok (.aload_n 0, 1) := by decide +kernel
theorem dX2_init_5 : decode cX2_init 5 = .ok (.iconst (-1), 1) := by decide +kernel
theorem dX2_init_6 : decode cX2_init 6 = .ok (.putfield 9, 3) := by decide +kernel
theorem dX2_init_9 : decode cX2_init 9 = .ok (.aload_n 0, 1) := by decide +kernel
theorem dX2_init_10 : decode cX2_init 10 = .ok (.bipush 72, 2) := by decide +kernel
theorem dX2_init_12 : decode cX2_init 12 = .ok (.newarray .int, 2) := by decide +kernel
theorem dX2_init_14 : decode cX2_init 14 = .ok (.putfield 15, 3) := by decide +kernel
theorem dX2_init_17 : decode cX2_init 17 = .ok (.aload_n 0, 1) := by decide +kernel
theorem dX2_init_18 : decode cX2_init 18 = .ok (.bipush 6, 2) := by decide +kernel
theorem dX2_init_20 : decode cX2_init 20 = .ok (.newarray .int, 2) := by decide +kernel
theorem dX2_init_22 : decode cX2_init 22 = .ok (.putfield 19, 3) := by decide +kernel
theorem dX2_init_25 : decode cX2_init 25 = .ok (.aload_n 0, 1) := by decide +kernel
theorem dX2_init_26 : decode cX2_init 26 = .ok (.bipush 16, 2) := by decide +kernel
theorem dX2_init_28 : decode cX2_init 28 = .ok (.newarray .int, 2) := by decide +kernel
theorem dX2_init_30 : decode cX2_init 30 = .ok (.putfield 22, 3) := by decide +kernel
theorem dX2_init_33 : decode cX2_init 33 = .ok (.aload_n 0, 1) := by decide +kernel
theorem dX2_init_34 : decode cX2_init 34 = .ok (.bipush 16, 2) := by decide +kernel
theorem dX2_init_36 : decode cX2_init 36 = .ok (.newarray .int, 2) := by decide +kernel
theorem dX2_init_38 : decode cX2_init 38 = .ok (.putfield 25, 3) := by decide +kernel
theorem dX2_init_41 : decode cX2_init 41 = .ok (.aload_n 0, 1) := by decide +kernel
theorem dX2_init_42 : decode cX2_init 42 = .ok (.iconst 5, 1) := by decide +kernel
theorem dX2_init_43 : decode cX2_init 43 = .ok (.newarray .int, 2) := by decide +kernel
theorem dX2_init_45 : decode cX2_init 45 = .ok (.putfield 28, 3) := by decide +kernel
theorem dX2_init_48 : decode cX2_init 48 = .ok (.aload_n 0, 1) := by decide +kernel
theorem dX2_init_49 : decode cX2_init 49 = .ok (.iconst 5, 1) := by decide +kernel
theorem dX2_init_50 : decode cX2_init 50 = .ok (.newarray .int, 2) := by decide +kernel
theorem dX2_init_52 : decode cX2_init 52 = .ok (.putfield 31, 3) := by decide +kernel
theorem dX2_init_55 : decode cX2_init 55 = .ok (.aload_n 0, 1) := by decide +kernel
theorem dX2_init_56 : decode cX2_init 56 = .ok (.iconst 5, 1) := by decide +kernel
theorem dX2_init_57 : decode cX2_init 57 = .ok (.newarray .int, 2) := by decide +kernel
theorem dX2_init_59 : decode cX2_init 59 = .ok (.putfield 34, 3) := by decide +kernel
theorem dX2_init_62 : decode cX2_init 62 = .ok (.aload_n 0, 1) := by decide +kernel
theorem dX2_init_63 : decode cX2_init 63 = .ok (.iconst 5, 1) := by decide +kernel
theorem dX2_init_64 : decode cX2_init 64 = .ok (.newarray .int, 2) := by decide +kernel
theorem dX2_init_66 : decode cX2_init 66 = .ok (.putfield 37, 3) := by decide +kernel
theorem dX2_init_69 : decode cX2_init 69 = .ok (.aload_n 0, 1) := by decide +kernel
theorem dX2_init_70 : decode cX2_init 70 = .ok (.sipush 1600, 3) := by decide +kernel
theorem dX2_init_73 : decode cX2_init 73 = .ok (.newarray .int, 2) := by decide +kernel
theorem dX2_init_75 : decode cX2_init 75 = .ok (.putfield 40, 3) := by decide +kernel
theorem dX2_init_78 : decode cX2_init 78 = .ok (.aload_n 0, 1) := by decide +kernel
theorem dX2_init_79 : decode cX2_init 79 = .ok (.iconst 3, 1) := by decide +kernel
theorem dX2_init_80 : decode cX2_init 80 = .ok (.newarray .int, 2) := by decide +kernel
theorem dX2_init_82 : decode cX2_init 82 = .ok (.putfield 43, 3) := by decide +kernel
theorem dX2_init_85 : decode cX2_init 85 = .ok (.aload_n 0, 1) := by decide +kernel
theorem dX2_init_86 : decode cX2_init 86 = .ok (.iconst 3, 1) := by decide +kernel
theorem dX2_init_87 : decode cX2_init 87 = .ok (.newarray .int, 2) := by decide +kernel
theorem dX2_init_89 : decode cX2_init 89 = .ok (.putfield 46, 3) := by decide +kernel
theorem dX2_init_92 : decode cX2_init 92 = .ok (.return_, 1) := by decide +kernel
theorem dX4_init_0 : decode cX4_init 0 = .ok (.aload_n 0, 1) := by decide +kernel
theorem dX4_init_1 : decode cX4_init 1 = .ok (.invokespecial 3, 3) := by decide +kernel
theorem dX4_init_4 : decode cX4_init 4 = .ok (.aload_n 0, 1) := by decide +kernel
theorem dX4_init_5 : decode cX4_init 5 = .ok (.bipush 124, 2) := by decide +kernel
theorem dX4_init_7 : decode cX4_init 7 = .ok (.newarray .int, 2) := by decide +kernel
theorem dX4_init_9 : decode cX4_init 9 = .ok (.putfield 9, 3) := by decide +kernel
theorem dX4_init_12 : decode cX4_init 12 = .ok (.aload_n 0, 1) := by decide +kernel
theorem dX4_init_13 : decode cX4_init 13 = .ok (.aload_n 1, 1) := by decide +kernel
theorem dX4_init_14 : decode cX4_init 14 = .ok (.putfield 15, 3) := by decide +kernel
theorem dX4_init_17 : decode cX4_init 17 = .ok (.return_, 1) := by decide +kernel
set_option maxRecDepth 20000 in
theorem ggX6_init_X9_init : GoodIn wsX6_init wsX9_init := goodIn_r _ [11, 12, 2, 3, 13, 14, 15, 16, 25, 26, 27, 28, 29] (by decide +kernel) (by decide +kernel)
set_option maxRecDepth 20000 in
theorem gX6_init_X9_init_n17 : GoodIn wsX6_init (wsX9_init) := ggX6_init_X9_init
theorem dX6_init_0 : decode cX6_init 0 = .ok (.aload_n 0, 1) := by decide +kernel
theorem dX6_init_1 : decode cX6_init 1 = .ok (.invokespecial 3, 3) := by decide +kernel
theorem dX6_init_4 : decode cX6_init 4 = .ok (.aload_n 0, 1) := by decide +kernel
theorem dX6_init_5 : decode cX6_init 5 = .ok (.iconst (-1), 1) := by decide +kernel
theorem dX6_init_6 : decode cX6_init 6 = .ok (.putfield 9, 3) := by decide +kernel
theorem dX6_init_9 : decode cX6_init 9 = .ok (.aload_n 0, 1) := by decide +kernel
theorem dX6_init_10 : decode cX6_init 10 = .ok (.new 15, 3) := by decide +kernel
theorem dX6_init_13 : decode cX6_init 13 = .ok (.dup, 1) := by decide +kernel
theorem dX6_init_14 : decode cX6_init 14 = .ok (.invokespecial 17, 3) := by decide +kernel
theorem dX6_init_17 : decode cX6_init 17 = .ok (.putfield 18, 3) := by decide +kernel
theorem dX6_init_20 : decode cX6_init 20 = .ok (.aload_n 0, 1) := by decide +kernel
theorem dX6_init_21 : decode cX6_init 21 = .ok (.aload_n 1, 1) := by decide +kernel
theorem dX6_init_22 : decode cX6_init 22 = .ok (.putfield 22, 3) := by decide +kernel
theorem dX6_init_25 : decode cX6_init 25 = .ok (.return_, 1) := by decide +kernel
theorem dX7_init_0 : decode cX7_init 0 = .ok (.aload_n 0, 1) := by decide +kernel
theorem dX7_init_1 : decode cX7_init 1 = .ok (.invokespecial 3, 3) := by decide +kernel
theorem dX7_init_4 : decode cX7_init 4 = .ok (.aload_n 0, 1) := by decide +kernel
theorem dX7_init_5 : decode cX7_init 5 = .ok (.bipush 64, 2) := by decide +kernel
theorem dX7_init_7 : decode cX7_init 7 = .ok (.newarray .int, 2) := by decide +kernel
theorem dX7_init_9 : decode cX7_init 9 = .ok (.putfield 11, 3) := by decide +kernel
theorem dX7_init_12 : decode cX7_init 12 = .ok (.return_, 1) := by decide +kernel
theorem dX9_init_0 : decode cX9_init 0 = .ok (.aload_n 0, 1) := by decide +kernel
theorem dX9_init_1 : decode cX9_init 1 = .ok (.invokespecial 3, 3) := by decide +kernel
theorem dX9_init_4 : decode cX9_init 4 = .ok (.aload_n 0, 1) := by decide +kernel
theorem dX9_init_5 : decode cX9_init 5 = .ok (.sipush 1601, 3) := by decide +kernel
theorem dX9_init_8 : decode cX9_init 8 = .ok (.newarray .int, 2) := by decide +kernel
theorem dX9_init_10 : decode cX9_init 10 = .ok (.putfield 9, 3) := by decide +kernel
theorem dX9_init_13 : decode cX9_init 13 = .ok (.aload_n 0, 1) := by decide +kernel
theorem dX9_init_14 : decode cX9_init 14 = .ok (.sipush 1601, 3) := by decide +kernel
theorem dX9_init_17 : decode cX9_init 17 = .ok (.newarray .int, 2) := by decide +kernel
theorem dX9_init_19 : decode cX9_init 19 = .ok (.putfield 15, 3) := by decide +kernel
theorem dX9_init_22 : decode cX9_init 22 = .ok (.aload_n 0, 1) := by decide +kernel
theorem dX9_init_23 : decode cX9_init 23 = .ok (.sipush 1601, 3) := by decide +kernel
theorem dX9_init_26 : decode cX9_init 26 = .ok (.newarray .int, 2) := by decide +kernel
theorem dX9_init_28 : decode cX9_init 28 = .ok (.putfield 18, 3) := by decide +kernel
theorem dX9_init_31 : decode cX9_init 31 = .ok (.return_, 1) := by decide +kernel
set_option maxRecDepth 20000 in
theorem ggX10_init_X7_init : GoodIn wsX10_init wsX7_init := goodIn_r _ [20, 21, 2, 3, 8, 22, 23, 24, 25, 26, 27, 28, 29, 30] (by decide +kernel) (by decide +kernel)
set_option maxRecDepth 20000 in
theorem gX10_init_X7_init_n11 : GoodIn wsX10_init (wsX7_init) := ggX10_init_X7_init
theorem dX10_init_0 : decode cX10_init 0 = .ok (.aload_n 0, 1) := by decide +kernel
theorem dX10_init_1 : decode cX10_init 1 = .ok (.invokespecial 3, 3) := by decide +kernel
theorem dX10_init_4 : decode cX10_init 4 = .ok (.aload_n 0, 1) := by decide +kernel
theorem dX10_init_5 : decode cX10_init 5 = .ok (.new 9, 3) := by decide +kernel
theorem dX10_init_8 : decode cX10_init 8 = .ok (.dup, 1) := by decide +kernel
theorem dX10_init_9 : decode cX10_init 9 = .ok (.invokespecial 11, 3) := by decide +kernel
theorem dX10_init_12 : decode cX10_init 12 = .ok (.putfield 12, 3) := by decide +kernel
theorem dX10_init_15 : decode cX10_init 15 = .ok (.aload_n 0, 1) := by decide +kernel
theorem dX10_init_16 : decode cX10_init 16 = .ok (.bipush 72, 2) := by decide +kernel
theorem dX10_init_18 : decode cX10_init 18 = .ok (.newarray .int, 2) := by decide +kernel
theorem dX10_init_20 : decode cX10_init 20 = .ok (.putfield 18, 3) := by decide +kernel
theorem dX10_init_23 : decode cX10_init 23 = .ok (.aload_n 0, 1) := by decide +kernel
theorem dX10_init_24 : decode cX10_init 24 = .ok (.bipush 72, 2) := by decide +kernel
theorem dX10_init_26 : decode cX10_init 26 = .ok (.newarray .int, 2) := by decide +kernel
theorem dX10_init_28 : decode cX10_init 28 = .ok (.putfield 22, 3) := by decide +kernel
theorem dX10_init_31 : decode cX10_init 31 = .ok (.aload_n 0, 1) := by decide +kernel
theorem dX10_init_32 : decode cX10_init 32 = .ok (.bipush 72, 2) := by decide +kernel
theorem dX10_init_34 : decode cX10_init 34 = .ok (.newarray .int, 2) := by decide +kernel
theorem dX10_init_36 : decode cX10_init 36 = .ok (.putfield 25, 3) := by decide +kernel
theorem dX10_init_39 : decode cX10_init 39 = .ok (.aload_n 0, 1) := by decide +kernel
theorem dX10_init_40 : decode cX10_init 40 = .ok (.bipush 72, 2) := by decide +kernel
theorem dX10_init_42 : decode cX10_init 42 = .ok (.newarray .int, 2) := by decide +kernel
theorem dX10_init_44 : decode cX10_init 44 = .ok (.putfield 28, 3) := by decide +kernel
theorem dX10_init_47 : decode cX10_init 47 = .ok (.aload_n 0, 1) := by decide +kernel
theorem dX10_init_48 : decode cX10_init 48 = .ok (.iconst (-1), 1) := by decide +kernel
theorem dX10_init_49 : decode cX10_init 49 = .ok (.putfield 31, 3) := by decide +kernel
theorem dX10_init_52 : decode cX10_init 52 = .ok (.aload_n 0, 1) := by decide +kernel
theorem dX10_init_53 : decode cX10_init 53 = .ok (.iconst (-1), 1) := by decide +kernel
theorem dX10_init_54 : decode cX10_init 54 = .ok (.putfield 35, 3) := by decide +kernel
theorem dX10_init_57 : decode cX10_init 57 = .ok (.aload_n 0, 1) := by decide +kernel
theorem dX10_init_58 : decode cX10_init 58 = .ok (.iconst (-1), 1) := by decide +kernel
theorem dX10_init_59 : decode cX10_init 59 = .ok (.putfield 38, 3) := by decide +kernel
theorem dX10_init_62 : decode cX10_init 62 = .ok (.aload_n 0, 1) := by decide +kernel
theorem dX10_init_63 : decode cX10_init 63 = .ok (.aload_n 1, 1) := by decide +kernel
theorem dX10_init_64 : decode cX10_init 64 = .ok (.putfield 41, 3) := by decide +kernel
theorem dX10_init_67 : decode cX10_init 67 = .ok (.aload_n 0, 1) := by decide +kernel
theorem dX10_init_68 : decode cX10_init 68 = .ok (.aload_n 2, 1) := by decide +kernel
theorem dX10_init_69 : decode cX10_init 69 = .ok (.putfield 45, 3) := by decide +kernel
theorem dX10_init_72 : decode cX10_init 72 = .ok (.aload_n 0, 1) := by decide +kernel
theorem dX10_init_73 : decode cX10_init 73 = .ok (.iconst 1, 1) := by decide +kernel
theorem dX10_init_74 : decode cX10_init 74 = .ok (.putfield 49, 3) := by decide +kernel
theorem dX10_init_77 : decode cX10_init 77 = .ok (.return_, 1) := by decide +kernel
set_option maxHeartbeats 8000000 in
set_option maxRecDepth 100000 in
theorem c_ground_init (l : Launch) (g : Nat → ClassId) (D : va_G) (h0 : Nat) (sz : Nat) : Met l yX2_init wsX2_init ({ frames := 1, cells := 11, slots := 1736, locals := 32 } : Room) (dk_Pc g D [(h0, .inr (2, [.int 0, .int 0, .int 0, .int 0, .int 0, .null, .int 0, .null, .int 0, .null, .null, .int 0, .null, .null, .null, .null, .null, .null, .null]))] sz [.ref h0]) (va_Qv (fun (_ : Nat × Nat × Nat × Nat × Nat × Nat × Nat × Nat × Nat × Nat × Nat) => True) (dk_B D (va_A [(h0, .inr (2, [.int 0, .int 0, .int 0, .int 0, .int 0, .null, .int 0, .null, .int 0, .null, .null, .int 0, .null, .null, .null, .null, .null, .null, .null]))] sz) (fun (u : Nat × Nat × Nat × Nat × Nat × Nat × Nat × Nat × Nat × Nat × Nat) => [(h0, .inr (2, [.int 0, .int 0, .int (-1), .int 0, .int 0, .ref u.1, .int 0, .ref u.2.1, .int 0, .ref u.2.2.1, .ref u.2.2.2.1, .int 0, .ref u.2.2.2.2.1, .ref u.2.2.2.2.2.1, .ref u.2.2.2.2.2.2.1, .ref u.2.2.2.2.2.2.2.1, .ref u.2.2.2.2.2.2.2.2.1, .ref u.2.2.2.2.2.2.2.2.2.1, .ref u.2.2.2.2.2.2.2.2.2.2])), (u.1, .inl (g 0, 72, .inl (fun _ => 0))), (u.2.2.2.2.2.2.2.2.2.1, .inl (g 0, 3, .inl (fun _ => 0))), (u.2.2.2.2.2.2.2.2.2.2, .inl (g 0, 3, .inl (fun _ => 0))), (u.2.2.1, .inl (g 0, 16, .inl (fun _ => 0))), (u.2.2.2.1, .inl (g 0, 16, .inl (fun _ => 0)))])) (va_A [(h0, .inr (2, [.int 0, .int 0, .int 0, .int 0, .int 0, .null, .int 0, .null, .int 0, .null, .null, .int 0, .null, .null, .null, .null, .null, .null, .null]))] sz)) 11 1736 (va_A [(h0, .inr (2, [.int 0, .int 0, .int 0, .int 0, .int 0, .null, .int 0, .null, .int 0, .null, .null, .int 0, .null, .null, .null, .null, .null, .null, .null]))] sz) := by
  refine dk_met (cc := cX2_init) (maxL := 1) (ret := none) (by decide) rfl (Nat.le_of_ble_eq_true rfl) ?_
  intro p e s m args below meth c harg hx hb hr hml hts hown hlocks hin hP K hD hS hA hsz ls hl
  subst hsz
  generalize va_A [(h0, .inr (2, [.int 0, .int 0, .int 0, .int 0, .int 0, .null, .int 0, .null, .int 0, .null, .null, .int 0, .null, .null, .null, .null, .null, .null, .null]))] s.heap.size = A at hD hS hA ⊢
  have F : CallFix p m c cX2_init 1 s args wsX2_init RX2 := ⟨hx, hb, hml, hown, hts⟩
  have hl : lv_has ls 1 [(0, .ref h0)] := hl
  have iX2 : ∀ w ∈ wsX20, w ∈ wsX2_init := fun _ h => List.mem_cons_of_mem _ (List.mem_append_right _ h)
  refine lv_aload_n hx hb dX2_init_0 rfl (lv_at hl 0 rfl) ?_
  refine W.objInit hx hb hown (hts (.methodLink RX2 3 objectInit) (by decide +kernel)) (hts (.instanceMethod objectInit) (by decide +kernel)) (hts _ (List.mem_of_getElem? (i := 3) rfl)) rfl (by rw [hml]; exact hl.1) rfl dX2_init_1 (Nat.le_of_ble_eq_true rfl) (Nat.le_of_ble_eq_true rfl) ?_
  refine W.eq (g2 := F0 m 4 ls []) rfl ?_
  refine lv_aload_n hx hb dX2_init_4 rfl (lv_at hl 0 rfl) ?_
  refine lv_iconst (v := (-1)) hx hb dX2_init_5 (by decide +kernel) ?_
  refine va_put (D := D) (ci := 2) (v := .int (-1)) (ty := tyX2 2) (C := RX2) (T := TX2) (N := 19) hx hb hts iX2 tyX2 tyX2_ok nmX2 hown K.1 hP hD hS 0 rfl rfl 2 (by decide) (hts (.fieldLink RX2 9 "DarkMine$Ground" "shaftPlace" "I") (by decide +kernel)) (fun _ h9 => h9) rfl (by decide +kernel) rfl rfl (Nat.le_of_ble_eq_true rfl) dX2_init_6 (fun H locs hP hD hS => ?_)
  have hP : va_P D vwCl [(h0, .inr (2, [.int 0, .int 0, .int (-1), .int 0, .int 0, .null, .int 0, .null, .int 0, .null, .null, .int 0, .null, .null, .null, .null, .null, .null, .null]))] H := hP
  have hD : va_D A [(h0, .inr (2, [.int 0, .int 0, .int (-1), .int 0, .int 0, .null, .int 0, .null, .int 0, .null, .null, .int 0, .null, .null, .null, .null, .null, .null, .null]))] := hD
  refine lv_aload_n hx hb dX2_init_9 rfl (lv_at hl 0 rfl) ?_
  refine lv_bipush (v := 72) hx hb dX2_init_10 (by decide +kernel) ?_
  refine dk_newa hx hb 0 rfl rfl (hts (.arrayClass .int) (by decide +kernel)) K hP hD hS hA (a0 := (72, .inl (fun _ => 0))) (fun _ => vp_cell_i _ _ _) (by decide +kernel) (N' := 72) (by decide +kernel) (Nat.le_of_ble_eq_true rfl) (Nat.le_of_ble_eq_true rfl) (Nat.le_of_ble_eq_true rfl) dX2_init_12 (fun q_1 H hP hD hS => ?_)
  have hP : va_P D vwCl [(h0, .inr (2, [.int 0, .int 0, .int (-1), .int 0, .int 0, .null, .int 0, .null, .int 0, .null, .null, .int 0, .null, .null, .null, .null, .null, .null, .null])), (q_1, .inl (g 0, 72, .inl (fun _ => 0)))] H := hP
  have hD : va_D A [(h0, .inr (2, [.int 0, .int 0, .int (-1), .int 0, .int 0, .null, .int 0, .null, .int 0, .null, .null, .int 0, .null, .null, .null, .null, .null, .null, .null])), (q_1, .inl (g 0, 72, .inl (fun _ => 0)))] := hD
  refine W.widen (k := 1) (n := 72) (by omega) (by omega) ?_
  refine va_putF (D := D) (ci := 2) (v := .ref q_1) (ty := tyX2 5) (C := RX2) (T := TX2) (N := 19) hx hb hts iX2 tyX2 tyX2_ok nmX2 hown K.1 hP hD hS 0 rfl rfl 5 (by decide) (hts (.fieldLink RX2 15 "DarkMine$Ground" "grades" "[I") (by decide +kernel)) (fun _ h9 => h9) rfl hin rfl (by decide +kernel) rfl rfl (Nat.le_of_ble_eq_true rfl) dX2_init_14 (fun H locs hP hD hS => ?_)
  have hP : va_P D vwCl [(h0, .inr (2, [.int 0, .int 0, .int (-1), .int 0, .int 0, .ref q_1, .int 0, .null, .int 0, .null, .null, .int 0, .null, .null, .null, .null, .null, .null, .null])), (q_1, .inl (g 0, 72, .inl (fun _ => 0)))] H := hP
  have hD : va_D A [(h0, .inr (2, [.int 0, .int 0, .int (-1), .int 0, .int 0, .ref q_1, .int 0, .null, .int 0, .null, .null, .int 0, .null, .null, .null, .null, .null, .null, .null])), (q_1, .inl (g 0, 72, .inl (fun _ => 0)))] := hD
  refine lv_aload_n hx hb dX2_init_17 rfl (lv_at hl 0 rfl) ?_
  refine lv_bipush (v := 6) hx hb dX2_init_18 (by decide +kernel) ?_
  refine dk_newa hx hb 0 rfl rfl (hts (.arrayClass .int) (by decide +kernel)) K hP hD hS hA (a0 := (6, .inl (fun _ => 0))) (fun _ => vp_cell_i _ _ _) (by decide +kernel) (N' := 6) (by decide +kernel) (Nat.le_of_ble_eq_true rfl) (Nat.le_of_ble_eq_true rfl) (Nat.le_of_ble_eq_true rfl) dX2_init_20 (fun q_2 H hP hD hS => ?_)
  have hP : va_P D vwCl [(h0, .inr (2, [.int 0, .int 0, .int (-1), .int 0, .int 0, .ref q_1, .int 0, .null, .int 0, .null, .null, .int 0, .null, .null, .null, .null, .null, .null, .null])), (q_1, .inl (g 0, 72, .inl (fun _ => 0))), (q_2, .inl (g 0, 6, .inl (fun _ => 0)))] H := hP
  have hD : va_D A [(h0, .inr (2, [.int 0, .int 0, .int (-1), .int 0, .int 0, .ref q_1, .int 0, .null, .int 0, .null, .null, .int 0, .null, .null, .null, .null, .null, .null, .null])), (q_1, .inl (g 0, 72, .inl (fun _ => 0))), (q_2, .inl (g 0, 6, .inl (fun _ => 0)))] := hD
  refine W.widen (k := 2) (n := 78) (by omega) (by omega) ?_
  refine va_putF (D := D) (ci := 2) (v := .ref q_2) (ty := tyX2 7) (C := RX2) (T := TX2) (N := 19) hx hb hts iX2 tyX2 tyX2_ok nmX2 hown K.1 hP hD hS 0 rfl rfl 7 (by decide) (hts (.fieldLink RX2 19 "DarkMine$Ground" "minerNames" "[I") (by decide +kernel)) (fun _ h9 => h9) rfl hin rfl (by decide +kernel) rfl rfl (Nat.le_of_ble_eq_true rfl) dX2_init_22 (fun H locs hP hD hS => ?_)
  have hP : va_P D vwCl [(h0, .inr (2, [.int 0, .int 0, .int (-1), .int 0, .int 0, .ref q_1, .int 0, .ref q_2, .int 0, .null, .null, .int 0, .null, .null, .null, .null, .null, .null, .null])), (q_1, .inl (g 0, 72, .inl (fun _ => 0))), (q_2, .inl (g 0, 6, .inl (fun _ => 0)))] H := hP
  have hD : va_D A [(h0, .inr (2, [.int 0, .int 0, .int (-1), .int 0, .int 0, .ref q_1, .int 0, .ref q_2, .int 0, .null, .null, .int 0, .null, .null, .null, .null, .null, .null, .null])), (q_1, .inl (g 0, 72, .inl (fun _ => 0))), (q_2, .inl (g 0, 6, .inl (fun _ => 0)))] := hD
  refine lv_aload_n hx hb dX2_init_25 rfl (lv_at hl 0 rfl) ?_
  refine lv_bipush (v := 16) hx hb dX2_init_26 (by decide +kernel) ?_
  refine dk_newa hx hb 0 rfl rfl (hts (.arrayClass .int) (by decide +kernel)) K hP hD hS hA (a0 := (16, .inl (fun _ => 0))) (fun _ => vp_cell_i _ _ _) (by decide +kernel) (N' := 16) (by decide +kernel) (Nat.le_of_ble_eq_true rfl) (Nat.le_of_ble_eq_true rfl) (Nat.le_of_ble_eq_true rfl) dX2_init_28 (fun q_3 H hP hD hS => ?_)
  have hP : va_P D vwCl [(h0, .inr (2, [.int 0, .int 0, .int (-1), .int 0, .int 0, .ref q_1, .int 0, .ref q_2, .int 0, .null, .null, .int 0, .null, .null, .null, .null, .null, .null, .null])), (q_1, .inl (g 0, 72, .inl (fun _ => 0))), (q_2, .inl (g 0, 6, .inl (fun _ => 0))), (q_3, .inl (g 0, 16, .inl (fun _ => 0)))] H := hP
  have hD : va_D A [(h0, .inr (2, [.int 0, .int 0, .int (-1), .int 0, .int 0, .ref q_1, .int 0, .ref q_2, .int 0, .null, .null, .int 0, .null, .null, .null, .null, .null, .null, .null])), (q_1, .inl (g 0, 72, .inl (fun _ => 0))), (q_2, .inl (g 0, 6, .inl (fun _ => 0))), (q_3, .inl (g 0, 16, .inl (fun _ => 0)))] := hD
  refine W.widen (k := 3) (n := 94) (by omega) (by omega) ?_
  refine va_putF (D := D) (ci := 2) (v := .ref q_3) (ty := tyX2 9) (C := RX2) (T := TX2) (N := 19) hx hb hts iX2 tyX2 tyX2_ok nmX2 hown K.1 hP hD hS 0 rfl rfl 9 (by decide) (hts (.fieldLink RX2 22 "DarkMine$Ground" "planMiners" "[I") (by decide +kernel)) (fun _ h9 => h9) rfl hin rfl (by decide +kernel) rfl rfl (Nat.le_of_ble_eq_true rfl) dX2_init_30 (fun H locs hP hD hS => ?_)
  have hP : va_P D vwCl [(h0, .inr (2, [.int 0, .int 0, .int (-1), .int 0, .int 0, .ref q_1, .int 0, .ref q_2, .int 0, .ref q_3, .null, .int 0, .null, .null, .null, .null, .null, .null, .null])), (q_1, .inl (g 0, 72, .inl (fun _ => 0))), (q_2, .inl (g 0, 6, .inl (fun _ => 0))), (q_3, .inl (g 0, 16, .inl (fun _ => 0)))] H := hP
  have hD : va_D A [(h0, .inr (2, [.int 0, .int 0, .int (-1), .int 0, .int 0, .ref q_1, .int 0, .ref q_2, .int 0, .ref q_3, .null, .int 0, .null, .null, .null, .null, .null, .null, .null])), (q_1, .inl (g 0, 72, .inl (fun _ => 0))), (q_2, .inl (g 0, 6, .inl (fun _ => 0))), (q_3, .inl (g 0, 16, .inl (fun _ => 0)))] := hD
  refine lv_aload_n hx hb dX2_init_33 rfl (lv_at hl 0 rfl) ?_
  refine lv_bipush (v := 16) hx hb dX2_init_34 (by decide +kernel) ?_
  refine dk_newa hx hb 0 rfl rfl (hts (.arrayClass .int) (by decide +kernel)) K hP hD hS hA (a0 := (16, .inl (fun _ => 0))) (fun _ => vp_cell_i _ _ _) (by decide +kernel) (N' := 16) (by decide +kernel) (Nat.le_of_ble_eq_true rfl) (Nat.le_of_ble_eq_true rfl) (Nat.le_of_ble_eq_true rfl) dX2_init_36 (fun q_4 H hP hD hS => ?_)
  have hP : va_P D vwCl [(h0, .inr (2, [.int 0, .int 0, .int (-1), .int 0, .int 0, .ref q_1, .int 0, .ref q_2, .int 0, .ref q_3, .null, .int 0, .null, .null, .null, .null, .null, .null, .null])), (q_1, .inl (g 0, 72, .inl (fun _ => 0))), (q_2, .inl (g 0, 6, .inl (fun _ => 0))), (q_3, .inl (g 0, 16, .inl (fun _ => 0))), (q_4, .inl (g 0, 16, .inl (fun _ => 0)))] H := hP
  have hD : va_D A [(h0, .inr (2, [.int 0, .int 0, .int (-1), .int 0, .int 0, .ref q_1, .int 0, .ref q_2, .int 0, .ref q_3, .null, .int 0, .null, .null, .null, .null, .null, .null, .null])), (q_1, .inl (g 0, 72, .inl (fun _ => 0))), (q_2, .inl (g 0, 6, .inl (fun _ => 0))), (q_3, .inl (g 0, 16, .inl (fun _ => 0))), (q_4, .inl (g 0, 16, .inl (fun _ => 0)))] := hD
  refine W.widen (k := 4) (n := 110) (by omega) (by omega) ?_
  refine va_putF (D := D) (ci := 2) (v := .ref q_4) (ty := tyX2 10) (C := RX2) (T := TX2) (N := 19) hx hb hts iX2 tyX2 tyX2_ok nmX2 hown K.1 hP hD hS 0 rfl rfl 10 (by decide) (hts (.fieldLink RX2 25 "DarkMine$Ground" "planPlaces" "[I") (by decide +kernel)) (fun _ h9 => h9) rfl hin rfl (by decide +kernel) rfl rfl (Nat.le_of_ble_eq_true rfl) dX2_init_38 (fun H locs hP hD hS => ?_)
  have hP : va_P D vwCl [(h0, .inr (2, [.int 0, .int 0, .int (-1), .int 0, .int 0, .ref q_1, .int 0, .ref q_2, .int 0, .ref q_3, .ref q_4, .int 0, .null, .null, .null, .null, .null, .null, .null])), (q_1, .inl (g 0, 72, .inl (fun _ => 0))), (q_2, .inl (g 0, 6, .inl (fun _ => 0))), (q_3, .inl (g 0, 16, .inl (fun _ => 0))), (q_4, .inl (g 0, 16, .inl (fun _ => 0)))] H := hP
  have hD : va_D A [(h0, .inr (2, [.int 0, .int 0, .int (-1), .int 0, .int 0, .ref q_1, .int 0, .ref q_2, .int 0, .ref q_3, .ref q_4, .int 0, .null, .null, .null, .null, .null, .null, .null])), (q_1, .inl (g 0, 72, .inl (fun _ => 0))), (q_2, .inl (g 0, 6, .inl (fun _ => 0))), (q_3, .inl (g 0, 16, .inl (fun _ => 0))), (q_4, .inl (g 0, 16, .inl (fun _ => 0)))] := hD
  refine lv_aload_n hx hb dX2_init_41 rfl (lv_at hl 0 rfl) ?_
  refine lv_iconst (v := 5) hx hb dX2_init_42 (by decide +kernel) ?_
  refine dk_newa hx hb 0 rfl rfl (hts (.arrayClass .int) (by decide +kernel)) K hP hD hS hA (a0 := (5, .inl (fun _ => 0))) (fun _ => vp_cell_i _ _ _) (by decide +kernel) (N' := 5) (by decide +kernel) (Nat.le_of_ble_eq_true rfl) (Nat.le_of_ble_eq_true rfl) (Nat.le_of_ble_eq_true rfl) dX2_init_43 (fun q_5 H hP hD hS => ?_)
  have hP : va_P D vwCl [(h0, .inr (2, [.int 0, .int 0, .int (-1), .int 0, .int 0, .ref q_1, .int 0, .ref q_2, .int 0, .ref q_3, .ref q_4, .int 0, .null, .null, .null, .null, .null, .null, .null])), (q_1, .inl (g 0, 72, .inl (fun _ => 0))), (q_2, .inl (g 0, 6, .inl (fun _ => 0))), (q_3, .inl (g 0, 16, .inl (fun _ => 0))), (q_4, .inl (g 0, 16, .inl (fun _ => 0))), (q_5, .inl (g 0, 5, .inl (fun _ => 0)))] H := hP
  have hD : va_D A [(h0, .inr (2, [.int 0, .int 0, .int (-1), .int 0, .int 0, .ref q_1, .int 0, .ref q_2, .int 0, .ref q_3, .ref q_4, .int 0, .null, .null, .null, .null, .null, .null, .null])), (q_1, .inl (g 0, 72, .inl (fun _ => 0))), (q_2, .inl (g 0, 6, .inl (fun _ => 0))), (q_3, .inl (g 0, 16, .inl (fun _ => 0))), (q_4, .inl (g 0, 16, .inl (fun _ => 0))), (q_5, .inl (g 0, 5, .inl (fun _ => 0)))] := hD
  refine W.widen (k := 5) (n := 115) (by omega) (by omega) ?_
  refine va_putF (D := D) (ci := 2) (v := .ref q_5) (ty := tyX2 12) (C := RX2) (T := TX2) (N := 19) hx hb hts iX2 tyX2 tyX2_ok nmX2 hown K.1 hP hD hS 0 rfl rfl 12 (by decide) (hts (.fieldLink RX2 28 "DarkMine$Ground" "orderNames" "[I") (by decide +kernel)) (fun _ h9 => h9) rfl hin rfl (by decide +kernel) rfl rfl (Nat.le_of_ble_eq_true rfl) dX2_init_45 (fun H locs hP hD hS => ?_)
  have hP : va_P D vwCl [(h0, .inr (2, [.int 0, .int 0, .int (-1), .int 0, .int 0, .ref q_1, .int 0, .ref q_2, .int 0, .ref q_3, .ref q_4, .int 0, .ref q_5, .null, .null, .null, .null, .null, .null])), (q_1, .inl (g 0, 72, .inl (fun _ => 0))), (q_2, .inl (g 0, 6, .inl (fun _ => 0))), (q_3, .inl (g 0, 16, .inl (fun _ => 0))), (q_4, .inl (g 0, 16, .inl (fun _ => 0))), (q_5, .inl (g 0, 5, .inl (fun _ => 0)))] H := hP
  have hD : va_D A [(h0, .inr (2, [.int 0, .int 0, .int (-1), .int 0, .int 0, .ref q_1, .int 0, .ref q_2, .int 0, .ref q_3, .ref q_4, .int 0, .ref q_5, .null, .null, .null, .null, .null, .null])), (q_1, .inl (g 0, 72, .inl (fun _ => 0))), (q_2, .inl (g 0, 6, .inl (fun _ => 0))), (q_3, .inl (g 0, 16, .inl (fun _ => 0))), (q_4, .inl (g 0, 16, .inl (fun _ => 0))), (q_5, .inl (g 0, 5, .inl (fun _ => 0)))] := hD
  refine lv_aload_n hx hb dX2_init_48 rfl (lv_at hl 0 rfl) ?_
  refine lv_iconst (v := 5) hx hb dX2_init_49 (by decide +kernel) ?_
  refine dk_newa hx hb 0 rfl rfl (hts (.arrayClass .int) (by decide +kernel)) K hP hD hS hA (a0 := (5, .inl (fun _ => 0))) (fun _ => vp_cell_i _ _ _) (by decide +kernel) (N' := 5) (by decide +kernel) (Nat.le_of_ble_eq_true rfl) (Nat.le_of_ble_eq_true rfl) (Nat.le_of_ble_eq_true rfl) dX2_init_50 (fun q_6 H hP hD hS => ?_)
  have hP : va_P D vwCl [(h0, .inr (2, [.int 0, .int 0, .int (-1), .int 0, .int 0, .ref q_1, .int 0, .ref q_2, .int 0, .ref q_3, .ref q_4, .int 0, .ref q_5, .null, .null, .null, .null, .null, .null])), (q_1, .inl (g 0, 72, .inl (fun _ => 0))), (q_2, .inl (g 0, 6, .inl (fun _ => 0))), (q_3, .inl (g 0, 16, .inl (fun _ => 0))), (q_4, .inl (g 0, 16, .inl (fun _ => 0))), (q_5, .inl (g 0, 5, .inl (fun _ => 0))), (q_6, .inl (g 0, 5, .inl (fun _ => 0)))] H := hP
  have hD : va_D A [(h0, .inr (2, [.int 0, .int 0, .int (-1), .int 0, .int 0, .ref q_1, .int 0, .ref q_2, .int 0, .ref q_3, .ref q_4, .int 0, .ref q_5, .null, .null, .null, .null, .null, .null])), (q_1, .inl (g 0, 72, .inl (fun _ => 0))), (q_2, .inl (g 0, 6, .inl (fun _ => 0))), (q_3, .inl (g 0, 16, .inl (fun _ => 0))), (q_4, .inl (g 0, 16, .inl (fun _ => 0))), (q_5, .inl (g 0, 5, .inl (fun _ => 0))), (q_6, .inl (g 0, 5, .inl (fun _ => 0)))] := hD
  refine W.widen (k := 6) (n := 120) (by omega) (by omega) ?_
  refine va_putF (D := D) (ci := 2) (v := .ref q_6) (ty := tyX2 13) (C := RX2) (T := TX2) (N := 19) hx hb hts iX2 tyX2 tyX2_ok nmX2 hown K.1 hP hD hS 0 rfl rfl 13 (by decide) (hts (.fieldLink RX2 31 "DarkMine$Ground" "orderGrades" "[I") (by decide +kernel)) (fun _ h9 => h9) rfl hin rfl (by decide +kernel) rfl rfl (Nat.le_of_ble_eq_true rfl) dX2_init_52 (fun H locs hP hD hS => ?_)
  have hP : va_P D vwCl [(h0, .inr (2, [.int 0, .int 0, .int (-1), .int 0, .int 0, .ref q_1, .int 0, .ref q_2, .int 0, .ref q_3, .ref q_4, .int 0, .ref q_5, .ref q_6, .null, .null, .null, .null, .null])), (q_1, .inl (g 0, 72, .inl (fun _ => 0))), (q_2, .inl (g 0, 6, .inl (fun _ => 0))), (q_3, .inl (g 0, 16, .inl (fun _ => 0))), (q_4, .inl (g 0, 16, .inl (fun _ => 0))), (q_5, .inl (g 0, 5, .inl (fun _ => 0))), (q_6, .inl (g 0, 5, .inl (fun _ => 0)))] H := hP
  have hD : va_D A [(h0, .inr (2, [.int 0, .int 0, .int (-1), .int 0, .int 0, .ref q_1, .int 0, .ref q_2, .int 0, .ref q_3, .ref q_4, .int 0, .ref q_5, .ref q_6, .null, .null, .null, .null, .null])), (q_1, .inl (g 0, 72, .inl (fun _ => 0))), (q_2, .inl (g 0, 6, .inl (fun _ => 0))), (q_3, .inl (g 0, 16, .inl (fun _ => 0))), (q_4, .inl (g 0, 16, .inl (fun _ => 0))), (q_5, .inl (g 0, 5, .inl (fun _ => 0))), (q_6, .inl (g 0, 5, .inl (fun _ => 0)))] := hD
  refine lv_aload_n hx hb dX2_init_55 rfl (lv_at hl 0 rfl) ?_
  refine lv_iconst (v := 5) hx hb dX2_init_56 (by decide +kernel) ?_
  refine dk_newa hx hb 0 rfl rfl (hts (.arrayClass .int) (by decide +kernel)) K hP hD hS hA (a0 := (5, .inl (fun _ => 0))) (fun _ => vp_cell_i _ _ _) (by decide +kernel) (N' := 5) (by decide +kernel) (Nat.le_of_ble_eq_true rfl) (Nat.le_of_ble_eq_true rfl) (Nat.le_of_ble_eq_true rfl) dX2_init_57 (fun q_7 H hP hD hS => ?_)
  have hP : va_P D vwCl [(h0, .inr (2, [.int 0, .int 0, .int (-1), .int 0, .int 0, .ref q_1, .int 0, .ref q_2, .int 0, .ref q_3, .ref q_4, .int 0, .ref q_5, .ref q_6, .null, .null, .null, .null, .null])), (q_1, .inl (g 0, 72, .inl (fun _ => 0))), (q_2, .inl (g 0, 6, .inl (fun _ => 0))), (q_3, .inl (g 0, 16, .inl (fun _ => 0))), (q_4, .inl (g 0, 16, .inl (fun _ => 0))), (q_5, .inl (g 0, 5, .inl (fun _ => 0))), (q_6, .inl (g 0, 5, .inl (fun _ => 0))), (q_7, .inl (g 0, 5, .inl (fun _ => 0)))] H := hP
  have hD : va_D A [(h0, .inr (2, [.int 0, .int 0, .int (-1), .int 0, .int 0, .ref q_1, .int 0, .ref q_2, .int 0, .ref q_3, .ref q_4, .int 0, .ref q_5, .ref q_6, .null, .null, .null, .null, .null])), (q_1, .inl (g 0, 72, .inl (fun _ => 0))), (q_2, .inl (g 0, 6, .inl (fun _ => 0))), (q_3, .inl (g 0, 16, .inl (fun _ => 0))), (q_4, .inl (g 0, 16, .inl (fun _ => 0))), (q_5, .inl (g 0, 5, .inl (fun _ => 0))), (q_6, .inl (g 0, 5, .inl (fun _ => 0))), (q_7, .inl (g 0, 5, .inl (fun _ => 0)))] := hD
  refine W.widen (k := 7) (n := 125) (by omega) (by omega) ?_
  refine va_putF (D := D) (ci := 2) (v := .ref q_7) (ty := tyX2 14) (C := RX2) (T := TX2) (N := 19) hx hb hts iX2 tyX2 tyX2_ok nmX2 hown K.1 hP hD hS 0 rfl rfl 14 (by decide) (hts (.fieldLink RX2 34 "DarkMine$Ground" "orderTubs" "[I") (by decide +kernel)) (fun _ h9 => h9) rfl hin rfl (by decide +kernel) rfl rfl (Nat.le_of_ble_eq_true rfl) dX2_init_59 (fun H locs hP hD hS => ?_)
  have hP : va_P D vwCl [(h0, .inr (2, [.int 0, .int 0, .int (-1), .int 0, .int 0, .ref q_1, .int 0, .ref q_2, .int 0, .ref q_3, .ref q_4, .int 0, .ref q_5, .ref q_6, .ref q_7, .null, .null, .null, .null])), (q_1, .inl (g 0, 72, .inl (fun _ => 0))), (q_2, .inl (g 0, 6, .inl (fun _ => 0))), (q_3, .inl (g 0, 16, .inl (fun _ => 0))), (q_4, .inl (g 0, 16, .inl (fun _ => 0))), (q_5, .inl (g 0, 5, .inl (fun _ => 0))), (q_6, .inl (g 0, 5, .inl (fun _ => 0))), (q_7, .inl (g 0, 5, .inl (fun _ => 0)))] H := hP
  have hD : va_D A [(h0, .inr (2, [.int 0, .int 0, .int (-1), .int 0, .int 0, .ref q_1, .int 0, .ref q_2, .int 0, .ref q_3, .ref q_4, .int 0, .ref q_5, .ref q_6, .ref q_7, .null, .null, .null, .null])), (q_1, .inl (g 0, 72, .inl (fun _ => 0))), (q_2, .inl (g 0, 6, .inl (fun _ => 0))), (q_3, .inl (g 0, 16, .inl (fun _ => 0))), (q_4, .inl (g 0, 16, .inl (fun _ => 0))), (q_5, .inl (g 0, 5, .inl (fun _ => 0))), (q_6, .inl (g 0, 5, .inl (fun _ => 0))), (q_7, .inl (g 0, 5, .inl (fun _ => 0)))] := hD
  refine lv_aload_n hx hb dX2_init_62 rfl (lv_at hl 0 rfl) ?_
  refine lv_iconst (v := 5) hx hb dX2_init_63 (by decide +kernel) ?_
  refine dk_newa hx hb 0 rfl rfl (hts (.arrayClass .int) (by decide +kernel)) K hP hD hS hA (a0 := (5, .inl (fun _ => 0))) (fun _ => vp_cell_i _ _ _) (by decide +kernel) (N' := 5) (by decide +kernel) (Nat.le_of_ble_eq_true rfl) (Nat.le_of_ble_eq_true rfl) (Nat.le_of_ble_eq_true rfl) dX2_init_64 (fun q_8 H hP hD hS => ?_)
  have hP : va_P D vwCl [(h0, .inr (2, [.int 0, .int 0, .int (-1), .int 0, .int 0, .ref q_1, .int 0, .ref q_2, .int 0, .ref q_3, .ref q_4, .int 0, .ref q_5, .ref q_6, .ref q_7, .null, .null, .null, .null])), (q_1, .inl (g 0, 72, .inl (fun _ => 0))), (q_2, .inl (g 0, 6, .inl (fun _ => 0))), (q_3, .inl (g 0, 16, .inl (fun _ => 0))), (q_4, .inl (g 0, 16, .inl (fun _ => 0))), (q_5, .inl (g 0, 5, .inl (fun _ => 0))), (q_6, .inl (g 0, 5, .inl (fun _ => 0))), (q_7, .inl (g 0, 5, .inl (fun _ => 0))), (q_8, .inl (g 0, 5, .inl (fun _ => 0)))] H := hP
  have hD : va_D A [(h0, .inr (2, [.int 0, .int 0, .int (-1), .int 0, .int 0, .ref q_1, .int 0, .ref q_2, .int 0, .ref q_3, .ref q_4, .int 0, .ref q_5, .ref q_6, .ref q_7, .null, .null, .null, .null])), (q_1, .inl (g 0, 72, .inl (fun _ => 0))), (q_2, .inl (g 0, 6, .inl (fun _ => 0))), (q_3, .inl (g 0, 16, .inl (fun _ => 0))), (q_4, .inl (g 0, 16, .inl (fun _ => 0))), (q_5, .inl (g 0, 5, .inl (fun _ => 0))), (q_6, .inl (g 0, 5, .inl (fun _ => 0))), (q_7, .inl (g 0, 5, .inl (fun _ => 0))), (q_8, .inl (g 0, 5, .inl (fun _ => 0)))] := hD
  refine W.widen (k := 8) (n := 130) (by omega) (by omega) ?_
  refine va_putF (D := D) (ci := 2) (v := .ref q_8) (ty := tyX2 15) (C := RX2) (T := TX2) (N := 19) hx hb hts iX2 tyX2 tyX2_ok nmX2 hown K.1 hP hD hS 0 rfl rfl 15 (by decide) (hts (.fieldLink RX2 37 "DarkMine$Ground" "orderPays" "[I") (by decide +kernel)) (fun _ h9 => h9) rfl hin rfl (by decide +kernel) rfl rfl (Nat.le_of_ble_eq_true rfl) dX2_init_66 (fun H locs hP hD hS => ?_)
  have hP : va_P D vwCl [(h0, .inr (2, [.int 0, .int 0, .int (-1), .int 0, .int 0, .ref q_1, .int 0, .ref q_2, .int 0, .ref q_3, .ref q_4, .int 0, .ref q_5, .ref q_6, .ref q_7, .ref q_8, .null, .null, .null])), (q_1, .inl (g 0, 72, .inl (fun _ => 0))), (q_2, .inl (g 0, 6, .inl (fun _ => 0))), (q_3, .inl (g 0, 16, .inl (fun _ => 0))), (q_4, .inl (g 0, 16, .inl (fun _ => 0))), (q_5, .inl (g 0, 5, .inl (fun _ => 0))), (q_6, .inl (g 0, 5, .inl (fun _ => 0))), (q_7, .inl (g 0, 5, .inl (fun _ => 0))), (q_8, .inl (g 0, 5, .inl (fun _ => 0)))] H := hP
  have hD : va_D A [(h0, .inr (2, [.int 0, .int 0, .int (-1), .int 0, .int 0, .ref q_1, .int 0, .ref q_2, .int 0, .ref q_3, .ref q_4, .int 0, .ref q_5, .ref q_6, .ref q_7, .ref q_8, .null, .null, .null])), (q_1, .inl (g 0, 72, .inl (fun _ => 0))), (q_2, .inl (g 0, 6, .inl (fun _ => 0))), (q_3, .inl (g 0, 16, .inl (fun _ => 0))), (q_4, .inl (g 0, 16, .inl (fun _ => 0))), (q_5, .inl (g 0, 5, .inl (fun _ => 0))), (q_6, .inl (g 0, 5, .inl (fun _ => 0))), (q_7, .inl (g 0, 5, .inl (fun _ => 0))), (q_8, .inl (g 0, 5, .inl (fun _ => 0)))] := hD
  refine lv_aload_n hx hb dX2_init_69 rfl (lv_at hl 0 rfl) ?_
  refine lv_sipush (v := 1600) hx hb dX2_init_70 (by decide +kernel) ?_
  refine dk_newa hx hb 0 rfl rfl (hts (.arrayClass .int) (by decide +kernel)) K hP hD hS hA (a0 := (1600, .inl (fun _ => 0))) (fun _ => vp_cell_i _ _ _) (by decide +kernel) (N' := 1600) (by decide +kernel) (Nat.le_of_ble_eq_true rfl) (Nat.le_of_ble_eq_true rfl) (Nat.le_of_ble_eq_true rfl) dX2_init_73 (fun q_9 H hP hD hS => ?_)
  have hP : va_P D vwCl [(h0, .inr (2, [.int 0, .int 0, .int (-1), .int 0, .int 0, .ref q_1, .int 0, .ref q_2, .int 0, .ref q_3, .ref q_4, .int 0, .ref q_5, .ref q_6, .ref q_7, .ref q_8, .null, .null, .null])), (q_1, .inl (g 0, 72, .inl (fun _ => 0))), (q_2, .inl (g 0, 6, .inl (fun _ => 0))), (q_3, .inl (g 0, 16, .inl (fun _ => 0))), (q_4, .inl (g 0, 16, .inl (fun _ => 0))), (q_5, .inl (g 0, 5, .inl (fun _ => 0))), (q_6, .inl (g 0, 5, .inl (fun _ => 0))), (q_7, .inl (g 0, 5, .inl (fun _ => 0))), (q_8, .inl (g 0, 5, .inl (fun _ => 0))), (q_9, .inl (g 0, 1600, .inl (fun _ => 0)))] H := hP
  have hD : va_D A [(h0, .inr (2, [.int 0, .int 0, .int (-1), .int 0, .int 0, .ref q_1, .int 0, .ref q_2, .int 0, .ref q_3, .ref q_4, .int 0, .ref q_5, .ref q_6, .ref q_7, .ref q_8, .null, .null, .null])), (q_1, .inl (g 0, 72, .inl (fun _ => 0))), (q_2, .inl (g 0, 6, .inl (fun _ => 0))), (q_3, .inl (g 0, 16, .inl (fun _ => 0))), (q_4, .inl (g 0, 16, .inl (fun _ => 0))), (q_5, .inl (g 0, 5, .inl (fun _ => 0))), (q_6, .inl (g 0, 5, .inl (fun _ => 0))), (q_7, .inl (g 0, 5, .inl (fun _ => 0))), (q_8, .inl (g 0, 5, .inl (fun _ => 0))), (q_9, .inl (g 0, 1600, .inl (fun _ => 0)))] := hD
  refine W.widen (k := 9) (n := 1730) (by omega) (by omega) ?_
  refine va_putF (D := D) (ci := 2) (v := .ref q_9) (ty := tyX2 16) (C := RX2) (T := TX2) (N := 19) hx hb hts iX2 tyX2 tyX2_ok nmX2 hown K.1 hP hD hS 0 rfl rfl 16 (by decide) (hts (.fieldLink RX2 40 "DarkMine$Ground" "steps" "[I") (by decide +kernel)) (fun _ h9 => h9) rfl hin rfl (by decide +kernel) rfl rfl (Nat.le_of_ble_eq_true rfl) dX2_init_75 (fun H locs hP hD hS => ?_)
  have hP : va_P D vwCl [(h0, .inr (2, [.int 0, .int 0, .int (-1), .int 0, .int 0, .ref q_1, .int 0, .ref q_2, .int 0, .ref q_3, .ref q_4, .int 0, .ref q_5, .ref q_6, .ref q_7, .ref q_8, .ref q_9, .null, .null])), (q_1, .inl (g 0, 72, .inl (fun _ => 0))), (q_2, .inl (g 0, 6, .inl (fun _ => 0))), (q_3, .inl (g 0, 16, .inl (fun _ => 0))), (q_4, .inl (g 0, 16, .inl (fun _ => 0))), (q_5, .inl (g 0, 5, .inl (fun _ => 0))), (q_6, .inl (g 0, 5, .inl (fun _ => 0))), (q_7, .inl (g 0, 5, .inl (fun _ => 0))), (q_8, .inl (g 0, 5, .inl (fun _ => 0))), (q_9, .inl (g 0, 1600, .inl (fun _ => 0)))] H := hP
  have hD : va_D A [(h0, .inr (2, [.int 0, .int 0, .int (-1), .int 0, .int 0, .ref q_1, .int 0, .ref q_2, .int 0, .ref q_3, .ref q_4, .int 0, .ref q_5, .ref q_6, .ref q_7, .ref q_8, .ref q_9, .null, .null])), (q_1, .inl (g 0, 72, .inl (fun _ => 0))), (q_2, .inl (g 0, 6, .inl (fun _ => 0))), (q_3, .inl (g 0, 16, .inl (fun _ => 0))), (q_4, .inl (g 0, 16, .inl (fun _ => 0))), (q_5, .inl (g 0, 5, .inl (fun _ => 0))), (q_6, .inl (g 0, 5, .inl (fun _ => 0))), (q_7, .inl (g 0, 5, .inl (fun _ => 0))), (q_8, .inl (g 0, 5, .inl (fun _ => 0))), (q_9, .inl (g 0, 1600, .inl (fun _ => 0)))] := hD
  refine lv_aload_n hx hb dX2_init_78 rfl (lv_at hl 0 rfl) ?_
  refine lv_iconst (v := 3) hx hb dX2_init_79 (by decide +kernel) ?_
  refine dk_newa hx hb 0 rfl rfl (hts (.arrayClass .int) (by decide +kernel)) K hP hD hS hA (a0 := (3, .inl (fun _ => 0))) (fun _ => vp_cell_i _ _ _) (by decide +kernel) (N' := 3) (by decide +kernel) (Nat.le_of_ble_eq_true rfl) (Nat.le_of_ble_eq_true rfl) (Nat.le_of_ble_eq_true rfl) dX2_init_80 (fun q_10 H hP hD hS => ?_)
  have hP : va_P D vwCl [(h0, .inr (2, [.int 0, .int 0, .int (-1), .int 0, .int 0, .ref q_1, .int 0, .ref q_2, .int 0, .ref q_3, .ref q_4, .int 0, .ref q_5, .ref q_6, .ref q_7, .ref q_8, .ref q_9, .null, .null])), (q_1, .inl (g 0, 72, .inl (fun _ => 0))), (q_2, .inl (g 0, 6, .inl (fun _ => 0))), (q_3, .inl (g 0, 16, .inl (fun _ => 0))), (q_4, .inl (g 0, 16, .inl (fun _ => 0))), (q_5, .inl (g 0, 5, .inl (fun _ => 0))), (q_6, .inl (g 0, 5, .inl (fun _ => 0))), (q_7, .inl (g 0, 5, .inl (fun _ => 0))), (q_8, .inl (g 0, 5, .inl (fun _ => 0))), (q_9, .inl (g 0, 1600, .inl (fun _ => 0))), (q_10, .inl (g 0, 3, .inl (fun _ => 0)))] H := hP
  have hD : va_D A [(h0, .inr (2, [.int 0, .int 0, .int (-1), .int 0, .int 0, .ref q_1, .int 0, .ref q_2, .int 0, .ref q_3, .ref q_4, .int 0, .ref q_5, .ref q_6, .ref q_7, .ref q_8, .ref q_9, .null, .null])), (q_1, .inl (g 0, 72, .inl (fun _ => 0))), (q_2, .inl (g 0, 6, .inl (fun _ => 0))), (q_3, .inl (g 0, 16, .inl (fun _ => 0))), (q_4, .inl (g 0, 16, .inl (fun _ => 0))), (q_5, .inl (g 0, 5, .inl (fun _ => 0))), (q_6, .inl (g 0, 5, .inl (fun _ => 0))), (q_7, .inl (g 0, 5, .inl (fun _ => 0))), (q_8, .inl (g 0, 5, .inl (fun _ => 0))), (q_9, .inl (g 0, 1600, .inl (fun _ => 0))), (q_10, .inl (g 0, 3, .inl (fun _ => 0)))] := hD
  refine W.widen (k := 10) (n := 1733) (by omega) (by omega) ?_
  refine va_putF (D := D) (ci := 2) (v := .ref q_10) (ty := tyX2 17) (C := RX2) (T := TX2) (N := 19) hx hb hts iX2 tyX2 tyX2_ok nmX2 hown K.1 hP hD hS 0 rfl rfl 17 (by decide) (hts (.fieldLink RX2 43 "DarkMine$Ground" "ruleFrom" "[I") (by decide +kernel)) (fun _ h9 => h9) rfl hin rfl (by decide +kernel) rfl rfl (Nat.le_of_ble_eq_true rfl) dX2_init_82 (fun H locs hP hD hS => ?_)
  have hP : va_P D vwCl [(h0, .inr (2, [.int 0, .int 0, .int (-1), .int 0, .int 0, .ref q_1, .int 0, .ref q_2, .int 0, .ref q_3, .ref q_4, .int 0, .ref q_5, .ref q_6, .ref q_7, .ref q_8, .ref q_9, .ref q_10, .null])), (q_1, .inl (g 0, 72, .inl (fun _ => 0))), (q_2, .inl (g 0, 6, .inl (fun _ => 0))), (q_3, .inl (g 0, 16, .inl (fun _ => 0))), (q_4, .inl (g 0, 16, .inl (fun _ => 0))), (q_5, .inl (g 0, 5, .inl (fun _ => 0))), (q_6, .inl (g 0, 5, .inl (fun _ => 0))), (q_7, .inl (g 0, 5, .inl (fun _ => 0))), (q_8, .inl (g 0, 5, .inl (fun _ => 0))), (q_9, .inl (g 0, 1600, .inl (fun _ => 0))), (q_10, .inl (g 0, 3, .inl (fun _ => 0)))] H := hP
  have hD : va_D A [(h0, .inr (2, [.int 0, .int 0, .int (-1), .int 0, .int 0, .ref q_1, .int 0, .ref q_2, .int 0, .ref q_3, .ref q_4, .int 0, .ref q_5, .ref q_6, .ref q_7, .ref q_8, .ref q_9, .ref q_10, .null])), (q_1, .inl (g 0, 72, .inl (fun _ => 0))), (q_2, .inl (g 0, 6, .inl (fun _ => 0))), (q_3, .inl (g 0, 16, .inl (fun _ => 0))), (q_4, .inl (g 0, 16, .inl (fun _ => 0))), (q_5, .inl (g 0, 5, .inl (fun _ => 0))), (q_6, .inl (g 0, 5, .inl (fun _ => 0))), (q_7, .inl (g 0, 5, .inl (fun _ => 0))), (q_8, .inl (g 0, 5, .inl (fun _ => 0))), (q_9, .inl (g 0, 1600, .inl (fun _ => 0))), (q_10, .inl (g 0, 3, .inl (fun _ => 0)))] := hD
  refine lv_aload_n hx hb dX2_init_85 rfl (lv_at hl 0 rfl) ?_
  refine lv_iconst (v := 3) hx hb dX2_init_86 (by decide +kernel) ?_
  refine dk_newa hx hb 0 rfl rfl (hts (.arrayClass .int) (by decide +kernel)) K hP hD hS hA (a0 := (3, .inl (fun _ => 0))) (fun _ => vp_cell_i _ _ _) (by decide +kernel) (N' := 3) (by decide +kernel) (Nat.le_of_ble_eq_true rfl) (Nat.le_of_ble_eq_true rfl) (Nat.le_of_ble_eq_true rfl) dX2_init_87 (fun q_11 H hP hD hS => ?_)
  have hP : va_P D vwCl [(h0, .inr (2, [.int 0, .int 0, .int (-1), .int 0, .int 0, .ref q_1, .int 0, .ref q_2, .int 0, .ref q_3, .ref q_4, .int 0, .ref q_5, .ref q_6, .ref q_7, .ref q_8, .ref q_9, .ref q_10, .null])), (q_1, .inl (g 0, 72, .inl (fun _ => 0))), (q_2, .inl (g 0, 6, .inl (fun _ => 0))), (q_3, .inl (g 0, 16, .inl (fun _ => 0))), (q_4, .inl (g 0, 16, .inl (fun _ => 0))), (q_5, .inl (g 0, 5, .inl (fun _ => 0))), (q_6, .inl (g 0, 5, .inl (fun _ => 0))), (q_7, .inl (g 0, 5, .inl (fun _ => 0))), (q_8, .inl (g 0, 5, .inl (fun _ => 0))), (q_9, .inl (g 0, 1600, .inl (fun _ => 0))), (q_10, .inl (g 0, 3, .inl (fun _ => 0))), (q_11, .inl (g 0, 3, .inl (fun _ => 0)))] H := hP
  have hD : va_D A [(h0, .inr (2, [.int 0, .int 0, .int (-1), .int 0, .int 0, .ref q_1, .int 0, .ref q_2, .int 0, .ref q_3, .ref q_4, .int 0, .ref q_5, .ref q_6, .ref q_7, .ref q_8, .ref q_9, .ref q_10, .null])), (q_1, .inl (g 0, 72, .inl (fun _ => 0))), (q_2, .inl (g 0, 6, .inl (fun _ => 0))), (q_3, .inl (g 0, 16, .inl (fun _ => 0))), (q_4, .inl (g 0, 16, .inl (fun _ => 0))), (q_5, .inl (g 0, 5, .inl (fun _ => 0))), (q_6, .inl (g 0, 5, .inl (fun _ => 0))), (q_7, .inl (g 0, 5, .inl (fun _ => 0))), (q_8, .inl (g 0, 5, .inl (fun _ => 0))), (q_9, .inl (g 0, 1600, .inl (fun _ => 0))), (q_10, .inl (g 0, 3, .inl (fun _ => 0))), (q_11, .inl (g 0, 3, .inl (fun _ => 0)))] := hD
  refine W.widen (k := 11) (n := 1736) (by omega) (by omega) ?_
  refine va_putF (D := D) (ci := 2) (v := .ref q_11) (ty := tyX2 18) (C := RX2) (T := TX2) (N := 19) hx hb hts iX2 tyX2 tyX2_ok nmX2 hown K.1 hP hD hS 0 rfl rfl 18 (by decide) (hts (.fieldLink RX2 46 "DarkMine$Ground" "ruleEnd" "[I") (by decide +kernel)) (fun _ h9 => h9) rfl hin rfl (by decide +kernel) rfl rfl (Nat.le_of_ble_eq_true rfl) dX2_init_89 (fun H locs hP hD hS => ?_)
  have hP : va_P D vwCl [(h0, .inr (2, [.int 0, .int 0, .int (-1), .int 0, .int 0, .ref q_1, .int 0, .ref q_2, .int 0, .ref q_3, .ref q_4, .int 0, .ref q_5, .ref q_6, .ref q_7, .ref q_8, .ref q_9, .ref q_10, .ref q_11])), (q_1, .inl (g 0, 72, .inl (fun _ => 0))), (q_2, .inl (g 0, 6, .inl (fun _ => 0))), (q_3, .inl (g 0, 16, .inl (fun _ => 0))), (q_4, .inl (g 0, 16, .inl (fun _ => 0))), (q_5, .inl (g 0, 5, .inl (fun _ => 0))), (q_6, .inl (g 0, 5, .inl (fun _ => 0))), (q_7, .inl (g 0, 5, .inl (fun _ => 0))), (q_8, .inl (g 0, 5, .inl (fun _ => 0))), (q_9, .inl (g 0, 1600, .inl (fun _ => 0))), (q_10, .inl (g 0, 3, .inl (fun _ => 0))), (q_11, .inl (g 0, 3, .inl (fun _ => 0)))] H := hP
  have hD : va_D A [(h0, .inr (2, [.int 0, .int 0, .int (-1), .int 0, .int 0, .ref q_1, .int 0, .ref q_2, .int 0, .ref q_3, .ref q_4, .int 0, .ref q_5, .ref q_6, .ref q_7, .ref q_8, .ref q_9, .ref q_10, .ref q_11])), (q_1, .inl (g 0, 72, .inl (fun _ => 0))), (q_2, .inl (g 0, 6, .inl (fun _ => 0))), (q_3, .inl (g 0, 16, .inl (fun _ => 0))), (q_4, .inl (g 0, 16, .inl (fun _ => 0))), (q_5, .inl (g 0, 5, .inl (fun _ => 0))), (q_6, .inl (g 0, 5, .inl (fun _ => 0))), (q_7, .inl (g 0, 5, .inl (fun _ => 0))), (q_8, .inl (g 0, 5, .inl (fun _ => 0))), (q_9, .inl (g 0, 1600, .inl (fun _ => 0))), (q_10, .inl (g 0, 3, .inl (fun _ => 0))), (q_11, .inl (g 0, 3, .inl (fun _ => 0)))] := hD
  refine W.widen (k := 11) (n := 1736) (Nat.le_of_ble_eq_true rfl) (Nat.le_of_ble_eq_true rfl) ?_
  exact dk_vret hx hb hr hlocks hP hD hS ⟨q_1, q_2, q_3, q_4, q_5, q_6, q_7, q_8, q_9, q_10, q_11⟩ [0, 1, 10, 11, 3, 4] rfl (by decide) trivial dX2_init_92
set_option maxHeartbeats 8000000 in
set_option maxRecDepth 100000 in
theorem c_image_init (l : Launch) (g : Nat → ClassId) (D : va_G) (h0 : Nat) (t0 : Nat) (sz : Nat) : Met l yX4_init wsX4_init ({ frames := 1, cells := 1, slots := 124, locals := 32 } : Room) (dk_Pc g D [(h0, .inr (4, [.null, .int 0, .null, .int 0, .int 0, .int 0]))] sz [.ref h0, .ref t0]) (va_Qv (fun (_ : Nat) => True) (dk_B D (va_A [(h0, .inr (4, [.null, .int 0, .null, .int 0, .int 0, .int 0]))] sz) (fun (u : Nat) => [(h0, .inr (4, [.ref u, .int 0, .ref t0, .int 0, .int 0, .int 0])), (u, .inl (g 0, 124, .inl (fun _ => 0)))])) (va_A [(h0, .inr (4, [.null, .int 0, .null, .int 0, .int 0, .int 0]))] sz)) 1 124 (va_A [(h0, .inr (4, [.null, .int 0, .null, .int 0, .int 0, .int 0]))] sz) := by
  refine dk_met (cc := cX4_init) (maxL := 2) (ret := none) (by decide) rfl (Nat.le_of_ble_eq_true rfl) ?_
  intro p e s m args below meth c harg hx hb hr hml hts hown hlocks hin hP K hD hS hA hsz ls hl
  subst hsz
  generalize va_A [(h0, .inr (4, [.null, .int 0, .null, .int 0, .int 0, .int 0]))] s.heap.size = A at hD hS hA ⊢
  have F : CallFix p m c cX4_init 2 s args wsX4_init RX4 := ⟨hx, hb, hml, hown, hts⟩
  have hl : lv_has ls 2 [(0, .ref h0), (1, .ref t0)] := hl
  have iX4 : ∀ w ∈ wsX40, w ∈ wsX4_init := fun _ h => List.mem_cons_of_mem _ (List.mem_append_right _ h)
  refine lv_aload_n hx hb dX4_init_0 rfl (lv_at hl 0 rfl) ?_
  refine W.objInit hx hb hown (hts (.methodLink RX4 3 objectInit) (by decide +kernel)) (hts (.instanceMethod objectInit) (by decide +kernel)) (hts _ (List.mem_of_getElem? (i := 3) rfl)) rfl (by rw [hml]; exact hl.1) rfl dX4_init_1 (Nat.le_of_ble_eq_true rfl) (Nat.le_of_ble_eq_true rfl) ?_
  refine W.eq (g2 := F0 m 4 ls []) rfl ?_
  refine lv_aload_n hx hb dX4_init_4 rfl (lv_at hl 0 rfl) ?_
  refine lv_bipush (v := 124) hx hb dX4_init_5 (by decide +kernel) ?_
  refine dk_newa hx hb 0 rfl rfl (hts (.arrayClass .int) (by decide +kernel)) K hP hD hS hA (a0 := (124, .inl (fun _ => 0))) (fun _ => vp_cell_i _ _ _) (by decide +kernel) (N' := 124) (by decide +kernel) (Nat.le_of_ble_eq_true rfl) (Nat.le_of_ble_eq_true rfl) (Nat.le_of_ble_eq_true rfl) dX4_init_7 (fun q_1 H hP hD hS => ?_)
  have hP : va_P D vwCl [(h0, .inr (4, [.null, .int 0, .null, .int 0, .int 0, .int 0])), (q_1, .inl (g 0, 124, .inl (fun _ => 0)))] H := hP
  have hD : va_D A [(h0, .inr (4, [.null, .int 0, .null, .int 0, .int 0, .int 0])), (q_1, .inl (g 0, 124, .inl (fun _ => 0)))] := hD
  refine W.widen (k := 1) (n := 124) (by omega) (by omega) ?_
  refine va_putF (D := D) (ci := 4) (v := .ref q_1) (ty := tyX4 0) (C := RX4) (T := TX4) (N := 6) hx hb hts iX4 tyX4 tyX4_ok nmX4 hown K.1 hP hD hS 0 rfl rfl 0 (by decide) (hts (.fieldLink RX4 9 "DarkMine$Image" "bytes" "[I") (by decide +kernel)) (fun _ h9 => h9) rfl hin rfl (by decide +kernel) rfl rfl (Nat.le_of_ble_eq_true rfl) dX4_init_9 (fun H locs hP hD hS => ?_)
  have hP : va_P D vwCl [(h0, .inr (4, [.ref q_1, .int 0, .null, .int 0, .int 0, .int 0])), (q_1, .inl (g 0, 124, .inl (fun _ => 0)))] H := hP
  have hD : va_D A [(h0, .inr (4, [.ref q_1, .int 0, .null, .int 0, .int 0, .int 0])), (q_1, .inl (g 0, 124, .inl (fun _ => 0)))] := hD
  refine lv_aload_n hx hb dX4_init_12 rfl (lv_at hl 0 rfl) ?_
  refine lv_aload_n hx hb dX4_init_13 rfl (lv_at hl 1 rfl) ?_
  refine va_putF (D := D) (ci := 4) (v := .ref t0) (ty := tyX4 2) (C := RX4) (T := TX4) (N := 6) hx hb hts iX4 tyX4 tyX4_ok nmX4 hown K.1 hP hD hS 0 rfl rfl 2 (by decide) (hts (.fieldLink RX4 15 "DarkMine$Image" "tape" "LDarkMine$Tape;") (by decide +kernel)) (fun _ h9 => h9) rfl hin rfl (by decide +kernel) rfl rfl (Nat.le_of_ble_eq_true rfl) dX4_init_14 (fun H locs hP hD hS => ?_)
  have hP : va_P D vwCl [(h0, .inr (4, [.ref q_1, .int 0, .ref t0, .int 0, .int 0, .int 0])), (q_1, .inl (g 0, 124, .inl (fun _ => 0)))] H := hP
  have hD : va_D A [(h0, .inr (4, [.ref q_1, .int 0, .ref t0, .int 0, .int 0, .int 0])), (q_1, .inl (g 0, 124, .inl (fun _ => 0)))] := hD
  refine W.widen (k := 1) (n := 124) (Nat.le_of_ble_eq_true rfl) (Nat.le_of_ble_eq_true rfl) ?_
  exact dk_vret hx hb hr hlocks hP hD hS q_1 [0, 1] rfl (by decide) trivial dX4_init_17
set_option maxHeartbeats 8000000 in
set_option maxRecDepth 100000 in
theorem c_words_init (l : Launch) (g : Nat → ClassId) (D : va_G) (h0 : Nat) (sz : Nat) : Met l yX9_init wsX9_init ({ frames := 1, cells := 3, slots := 4803, locals := 32 } : Room) (dk_Pc g D [(h0, .inr (9, [.null, .null, .null, .int 0, .int 0]))] sz [.ref h0]) (va_Qv (fun (_ : Nat × Nat × Nat) => True) (dk_B D (va_A [(h0, .inr (9, [.null, .null, .null, .int 0, .int 0]))] sz) (fun (u : Nat × Nat × Nat) => [(h0, .inr (9, [.ref u.1, .ref u.2.1, .ref u.2.2, .int 0, .int 0])), (u.1, .inl (g 0, 1601, .inl (fun _ => 0))), (u.2.1, .inl (g 0, 1601, .inl (fun _ => 0))), (u.2.2, .inl (g 0, 1601, .inl (fun _ => 0)))])) (va_A [(h0, .inr (9, [.null, .null, .null, .int 0, .int 0]))] sz)) 3 4803 (va_A [(h0, .inr (9, [.null, .null, .null, .int 0, .int 0]))] sz) := by
  refine dk_met (cc := cX9_init) (maxL := 1) (ret := none) (by decide) rfl (Nat.le_of_ble_eq_true rfl) ?_
  intro p e s m args below meth c harg hx hb hr hml hts hown hlocks hin hP K hD hS hA hsz ls hl
  subst hsz
  generalize va_A [(h0, .inr (9, [.null, .null, .null, .int 0, .int 0]))] s.heap.size = A at hD hS hA ⊢
  have F : CallFix p m c cX9_init 1 s args wsX9_init RX9 := ⟨hx, hb, hml, hown, hts⟩
  have hl : lv_has ls 1 [(0, .ref h0)] := hl
  have iX9 : ∀ w ∈ wsX90, w ∈ wsX9_init := fun _ h => List.mem_cons_of_mem _ (List.mem_append_right _ h)
  refine lv_aload_n hx hb dX9_init_0 rfl (lv_at hl 0 rfl) ?_
  refine W.objInit hx hb hown (hts (.methodLink RX9 3 objectInit) (by decide +kernel)) (hts (.instanceMethod objectInit) (by decide +kernel)) (hts _ (List.mem_of_getElem? (i := 3) rfl)) rfl (by rw [hml]; exact hl.1) rfl dX9_init_1 (Nat.le_of_ble_eq_true rfl) (Nat.le_of_ble_eq_true rfl) ?_
  refine W.eq (g2 := F0 m 4 ls []) rfl ?_
  refine lv_aload_n hx hb dX9_init_4 rfl (lv_at hl 0 rfl) ?_
  refine lv_sipush (v := 1601) hx hb dX9_init_5 (by decide +kernel) ?_
  refine dk_newa hx hb 0 rfl rfl (hts (.arrayClass .int) (by decide +kernel)) K hP hD hS hA (a0 := (1601, .inl (fun _ => 0))) (fun _ => vp_cell_i _ _ _) (by decide +kernel) (N' := 1601) (by decide +kernel) (Nat.le_of_ble_eq_true rfl) (Nat.le_of_ble_eq_true rfl) (Nat.le_of_ble_eq_true rfl) dX9_init_8 (fun q_1 H hP hD hS => ?_)
  have hP : va_P D vwCl [(h0, .inr (9, [.null, .null, .null, .int 0, .int 0])), (q_1, .inl (g 0, 1601, .inl (fun _ => 0)))] H := hP
  have hD : va_D A [(h0, .inr (9, [.null, .null, .null, .int 0, .int 0])), (q_1, .inl (g 0, 1601, .inl (fun _ => 0)))] := hD
  refine W.widen (k := 1) (n := 1601) (by omega) (by omega) ?_
  refine va_putF (D := D) (ci := 9) (v := .ref q_1) (ty := tyX9 0) (C := RX9) (T := TX9) (N := 5) hx hb hts iX9 tyX9 tyX9_ok nmX9 hown K.1 hP hD hS 0 rfl rfl 0 (by decide) (hts (.fieldLink RX9 9 "DarkMine$Words" "kinds" "[I") (by decide +kernel)) (fun _ h9 => h9) rfl hin rfl (by decide +kernel) rfl rfl (Nat.le_of_ble_eq_true rfl) dX9_init_10 (fun H locs hP hD hS => ?_)
  have hP : va_P D vwCl [(h0, .inr (9, [.ref q_1, .null, .null, .int 0, .int 0])), (q_1, .inl (g 0, 1601, .inl (fun _ => 0)))] H := hP
  have hD : va_D A [(h0, .inr (9, [.ref q_1, .null, .null, .int 0, .int 0])), (q_1, .inl (g 0, 1601, .inl (fun _ => 0)))] := hD
  refine lv_aload_n hx hb dX9_init_13 rfl (lv_at hl 0 rfl) ?_
  refine lv_sipush (v := 1601) hx hb dX9_init_14 (by decide +kernel) ?_
  refine dk_newa hx hb 0 rfl rfl (hts (.arrayClass .int) (by decide +kernel)) K hP hD hS hA (a0 := (1601, .inl (fun _ => 0))) (fun _ => vp_cell_i _ _ _) (by decide +kernel) (N' := 1601) (by decide +kernel) (Nat.le_of_ble_eq_true rfl) (Nat.le_of_ble_eq_true rfl) (Nat.le_of_ble_eq_true rfl) dX9_init_17 (fun q_2 H hP hD hS => ?_)
  have hP : va_P D vwCl [(h0, .inr (9, [.ref q_1, .null, .null, .int 0, .int 0])), (q_1, .inl (g 0, 1601, .inl (fun _ => 0))), (q_2, .inl (g 0, 1601, .inl (fun _ => 0)))] H := hP
  have hD : va_D A [(h0, .inr (9, [.ref q_1, .null, .null, .int 0, .int 0])), (q_1, .inl (g 0, 1601, .inl (fun _ => 0))), (q_2, .inl (g 0, 1601, .inl (fun _ => 0)))] := hD
  refine W.widen (k := 2) (n := 3202) (by omega) (by omega) ?_
  refine va_putF (D := D) (ci := 9) (v := .ref q_2) (ty := tyX9 1) (C := RX9) (T := TX9) (N := 5) hx hb hts iX9 tyX9 tyX9_ok nmX9 hown K.1 hP hD hS 0 rfl rfl 1 (by decide) (hts (.fieldLink RX9 15 "DarkMine$Words" "starts" "[I") (by decide +kernel)) (fun _ h9 => h9) rfl hin rfl (by decide +kernel) rfl rfl (Nat.le_of_ble_eq_true rfl) dX9_init_19 (fun H locs hP hD hS => ?_)
  have hP : va_P D vwCl [(h0, .inr (9, [.ref q_1, .ref q_2, .null, .int 0, .int 0])), (q_1, .inl (g 0, 1601, .inl (fun _ => 0))), (q_2, .inl (g 0, 1601, .inl (fun _ => 0)))] H := hP
  have hD : va_D A [(h0, .inr (9, [.ref q_1, .ref q_2, .null, .int 0, .int 0])), (q_1, .inl (g 0, 1601, .inl (fun _ => 0))), (q_2, .inl (g 0, 1601, .inl (fun _ => 0)))] := hD
  refine lv_aload_n hx hb dX9_init_22 rfl (lv_at hl 0 rfl) ?_
  refine lv_sipush (v := 1601) hx hb dX9_init_23 (by decide +kernel) ?_
  refine dk_newa hx hb 0 rfl rfl (hts (.arrayClass .int) (by decide +kernel)) K hP hD hS hA (a0 := (1601, .inl (fun _ => 0))) (fun _ => vp_cell_i _ _ _) (by decide +kernel) (N' := 1601) (by decide +kernel) (Nat.le_of_ble_eq_true rfl) (Nat.le_of_ble_eq_true rfl) (Nat.le_of_ble_eq_true rfl) dX9_init_26 (fun q_3 H hP hD hS => ?_)
  have hP : va_P D vwCl [(h0, .inr (9, [.ref q_1, .ref q_2, .null, .int 0, .int 0])), (q_1, .inl (g 0, 1601, .inl (fun _ => 0))), (q_2, .inl (g 0, 1601, .inl (fun _ => 0))), (q_3, .inl (g 0, 1601, .inl (fun _ => 0)))] H := hP
  have hD : va_D A [(h0, .inr (9, [.ref q_1, .ref q_2, .null, .int 0, .int 0])), (q_1, .inl (g 0, 1601, .inl (fun _ => 0))), (q_2, .inl (g 0, 1601, .inl (fun _ => 0))), (q_3, .inl (g 0, 1601, .inl (fun _ => 0)))] := hD
  refine W.widen (k := 3) (n := 4803) (by omega) (by omega) ?_
  refine va_putF (D := D) (ci := 9) (v := .ref q_3) (ty := tyX9 2) (C := RX9) (T := TX9) (N := 5) hx hb hts iX9 tyX9 tyX9_ok nmX9 hown K.1 hP hD hS 0 rfl rfl 2 (by decide) (hts (.fieldLink RX9 18 "DarkMine$Words" "values" "[I") (by decide +kernel)) (fun _ h9 => h9) rfl hin rfl (by decide +kernel) rfl rfl (Nat.le_of_ble_eq_true rfl) dX9_init_28 (fun H locs hP hD hS => ?_)
  have hP : va_P D vwCl [(h0, .inr (9, [.ref q_1, .ref q_2, .ref q_3, .int 0, .int 0])), (q_1, .inl (g 0, 1601, .inl (fun _ => 0))), (q_2, .inl (g 0, 1601, .inl (fun _ => 0))), (q_3, .inl (g 0, 1601, .inl (fun _ => 0)))] H := hP
  have hD : va_D A [(h0, .inr (9, [.ref q_1, .ref q_2, .ref q_3, .int 0, .int 0])), (q_1, .inl (g 0, 1601, .inl (fun _ => 0))), (q_2, .inl (g 0, 1601, .inl (fun _ => 0))), (q_3, .inl (g 0, 1601, .inl (fun _ => 0)))] := hD
  refine W.widen (k := 3) (n := 4803) (Nat.le_of_ble_eq_true rfl) (Nat.le_of_ble_eq_true rfl) ?_
  exact dk_vret hx hb hr hlocks hP hD hS ⟨q_1, q_2, q_3⟩ [0, 1, 2, 3] rfl (by decide) trivial dX9_init_31
set_option maxHeartbeats 8000000 in
set_option maxRecDepth 100000 in
theorem c_reader_init (l : Launch) (g : Nat → ClassId) (D : va_G) (h0 : Nat) (g0 : Nat) (sz : Nat) : Met l yX6_init wsX6_init ({ frames := 2, cells := 4, slots := 4808, locals := 52 } : Room) (dk_Pc g D [(h0, .inr (6, [.int 0, .int 0, .null, .null, .int 0, .int 0, .int 0, .int 0]))] sz [.ref h0, .ref g0]) (va_Qv (fun (_ : Nat × Nat × Nat × Nat) => True) (dk_B D (va_A [(h0, .inr (6, [.int 0, .int 0, .null, .null, .int 0, .int 0, .int 0, .int 0]))] sz) (fun (u : Nat × Nat × Nat × Nat) => [(h0, .inr (6, [.int 0, .int (-1), .ref u.1, .ref g0, .int 0, .int 0, .int 0, .int 0])), (u.1, .inr (9, [.ref u.2.1, .ref u.2.2.1, .ref u.2.2.2, .int 0, .int 0])), (u.2.1, .inl (g 0, 1601, .inl (fun _ => 0))), (u.2.2.1, .inl (g 0, 1601, .inl (fun _ => 0))), (u.2.2.2, .inl (g 0, 1601, .inl (fun _ => 0)))])) (va_A [(h0, .inr (6, [.int 0, .int 0, .null, .null, .int 0, .int 0, .int 0, .int 0]))] sz)) 4 4808 (va_A [(h0, .inr (6, [.int 0, .int 0, .null, .null, .int 0, .int 0, .int 0, .int 0]))] sz) := by
  refine dk_met (cc := cX6_init) (maxL := 2) (ret := none) (by decide) rfl (Nat.le_of_ble_eq_true rfl) ?_
  intro p e s m args below meth c harg hx hb hr hml hts hown hlocks hin hP K hD hS hA hsz ls hl
  subst hsz
  generalize va_A [(h0, .inr (6, [.int 0, .int 0, .null, .null, .int 0, .int 0, .int 0, .int 0]))] s.heap.size = A at hD hS hA ⊢
  have F : CallFix p m c cX6_init 2 s args wsX6_init RX6 := ⟨hx, hb, hml, hown, hts⟩
  have hl : lv_has ls 2 [(0, .ref h0), (1, .ref g0)] := hl
  have iX6 : ∀ w ∈ wsX60, w ∈ wsX6_init := fun _ h => List.mem_cons_of_mem _ (List.mem_append_left _ (List.mem_append_right _ h))
  have iX9 : ∀ w ∈ wsX90, w ∈ wsX6_init := fun _ h => List.mem_cons_of_mem _ (List.mem_append_right _ h)
  refine lv_aload_n hx hb dX6_init_0 rfl (lv_at hl 0 rfl) ?_
  refine W.objInit hx hb hown (hts (.methodLink RX6 3 objectInit) (by decide +kernel)) (hts (.instanceMethod objectInit) (by decide +kernel)) (hts _ (List.mem_of_getElem? (i := 3) rfl)) rfl (by rw [hml]; exact hl.1) rfl dX6_init_1 (Nat.le_of_ble_eq_true rfl) (Nat.le_of_ble_eq_true rfl) ?_
  refine W.eq (g2 := F0 m 4 ls []) rfl ?_
  refine lv_aload_n hx hb dX6_init_4 rfl (lv_at hl 0 rfl) ?_
  refine lv_iconst (v := (-1)) hx hb dX6_init_5 (by decide +kernel) ?_
  refine va_put (D := D) (ci := 6) (v := .int (-1)) (ty := tyX6 1) (C := RX6) (T := TX6) (N := 8) hx hb hts iX6 tyX6 tyX6_ok nmX6 hown K.1 hP hD hS 0 rfl rfl 1 (by decide) (hts (.fieldLink RX6 9 "DarkMine$Reader" "faultAt" "I") (by decide +kernel)) (fun _ h9 => h9) rfl (by decide +kernel) rfl rfl (Nat.le_of_ble_eq_true rfl) dX6_init_6 (fun H locs hP hD hS => ?_)
  have hP : va_P D vwCl [(h0, .inr (6, [.int 0, .int (-1), .null, .null, .int 0, .int 0, .int 0, .int 0]))] H := hP
  have hD : va_D A [(h0, .inr (6, [.int 0, .int (-1), .null, .null, .int 0, .int 0, .int 0, .int 0]))] := hD
  refine lv_aload_n hx hb dX6_init_9 rfl (lv_at hl 0 rfl) ?_
  refine va_new (ci := 9) (fs := [.null, .null, .null, .int 0, .int 0]) (C := RX9) (T := TX9) (N := 5) hx hb hts iX9 tyX9 tyX9_ok hown (hts (.classLink RX6 15 RX9) (by decide +kernel)) (hts (.instantiable RX9 5) (by decide +kernel)) (hts (.initialized RX9) (by decide +kernel)) K.1 hP hD hS hA rfl (fun j hj => by rcases (show j = 0 ∨ j = 1 ∨ j = 2 ∨ j = 3 ∨ j = 4 by omega) with rfl | rfl | rfl | rfl | rfl <;> rfl) (Nat.le_of_ble_eq_true rfl) (Nat.le_of_ble_eq_true rfl) dX6_init_10 (fun q_1 H hP hD hS => ?_)
  have hP : va_P D vwCl [(h0, .inr (6, [.int 0, .int (-1), .null, .null, .int 0, .int 0, .int 0, .int 0])), (q_1, .inr (9, [.null, .null, .null, .int 0, .int 0]))] H := hP
  have hD : va_D A [(h0, .inr (6, [.int 0, .int (-1), .null, .null, .int 0, .int 0, .int 0, .int 0])), (q_1, .inr (9, [.null, .null, .null, .int 0, .int 0]))] := hD
  refine W.widen (k := 1) (n := 5) (by omega) (by omega) ?_
  refine lv_dup hx hb dX6_init_13 rfl ?_
  refine dk_backv hP hD hS hA (wr := [(h0, .inr (6, [.int 0, .int (-1), .null, .null, .int 0, .int 0, .int 0, .int 0]))]) [1] [0] rfl rfl (by decide) (by decide) (va_runIN (As := []) (rest := [.ref q_1, .ref h0]) F (c_words_init l g D q_1 H.size) ⟨va_cnB 0 hts gX6_init_X9_init_n17 rfl rfl rfl (K.2.1 _ (List.mem_of_getElem? (i := 4) rfl)) (hts (.initialized RX9) (by decide +kernel)) (by decide +kernel) ⟨Nat.le_of_ble_eq_true rfl, Nat.le_of_ble_eq_true rfl⟩, rfl, hts (.instanceMethod yX9_init) (by decide +kernel)⟩ (dk_preS K hP hD [1] rfl (by decide)) rfl rfl hl.1 rfl (lv_room (Nat.le_of_ble_eq_true rfl)) dX6_init_14 ⟨Nat.le_of_ble_eq_true rfl, Nat.le_of_ble_eq_true rfl⟩) (fun u H locs hw hP hD hS => ?_)
  obtain ⟨r_2, r_3, r_4⟩ := u
  have hP : va_P D vwCl [(h0, .inr (6, [.int 0, .int (-1), .null, .null, .int 0, .int 0, .int 0, .int 0])), (q_1, .inr (9, [.ref r_2, .ref r_3, .ref r_4, .int 0, .int 0])), (r_2, .inl (g 0, 1601, .inl (fun _ => 0))), (r_3, .inl (g 0, 1601, .inl (fun _ => 0))), (r_4, .inl (g 0, 1601, .inl (fun _ => 0)))] H := hP
  have hD : va_D A [(h0, .inr (6, [.int 0, .int (-1), .null, .null, .int 0, .int 0, .int 0, .int 0])), (q_1, .inr (9, [.ref r_2, .ref r_3, .ref r_4, .int 0, .int 0])), (r_2, .inl (g 0, 1601, .inl (fun _ => 0))), (r_3, .inl (g 0, 1601, .inl (fun _ => 0))), (r_4, .inl (g 0, 1601, .inl (fun _ => 0)))] := hD
  refine W.widen (k := 4) (n := 4808) (by omega) (by omega) ?_
  refine va_putF (D := D) (ci := 6) (v := .ref q_1) (ty := tyX6 2) (C := RX6) (T := TX6) (N := 8) hx hb hts iX6 tyX6 tyX6_ok nmX6 hown K.1 hP hD hS 0 rfl rfl 2 (by decide) (hts (.fieldLink RX6 18 "DarkMine$Reader" "words" "LDarkMine$Words;") (by decide +kernel)) (fun _ h9 => h9) rfl hin rfl (by decide +kernel) rfl rfl (Nat.le_of_ble_eq_true rfl) dX6_init_17 (fun H locs hP hD hS => ?_)
  have hP : va_P D vwCl [(h0, .inr (6, [.int 0, .int (-1), .ref q_1, .null, .int 0, .int 0, .int 0, .int 0])), (q_1, .inr (9, [.ref r_2, .ref r_3, .ref r_4, .int 0, .int 0])), (r_2, .inl (g 0, 1601, .inl (fun _ => 0))), (r_3, .inl (g 0, 1601, .inl (fun _ => 0))), (r_4, .inl (g 0, 1601, .inl (fun _ => 0)))] H := hP
  have hD : va_D A [(h0, .inr (6, [.int 0, .int (-1), .ref q_1, .null, .int 0, .int 0, .int 0, .int 0])), (q_1, .inr (9, [.ref r_2, .ref r_3, .ref r_4, .int 0, .int 0])), (r_2, .inl (g 0, 1601, .inl (fun _ => 0))), (r_3, .inl (g 0, 1601, .inl (fun _ => 0))), (r_4, .inl (g 0, 1601, .inl (fun _ => 0)))] := hD
  refine lv_aload_n hx hb dX6_init_20 rfl (lv_at hl 0 rfl) ?_
  refine lv_aload_n hx hb dX6_init_21 rfl (lv_at hl 1 rfl) ?_
  refine va_put (D := D) (ci := 6) (v := .ref g0) (ty := tyX6 3) (C := RX6) (T := TX6) (N := 8) hx hb hts iX6 tyX6 tyX6_ok nmX6 hown K.1 hP hD hS 0 rfl rfl 3 (by decide) (hts (.fieldLink RX6 22 "DarkMine$Reader" "ground" "LDarkMine$Ground;") (by decide +kernel)) (fun _ h9 => h9) rfl (by decide +kernel) rfl rfl (Nat.le_of_ble_eq_true rfl) dX6_init_22 (fun H locs hP hD hS => ?_)
  have hP : va_P D vwCl [(h0, .inr (6, [.int 0, .int (-1), .ref q_1, .ref g0, .int 0, .int 0, .int 0, .int 0])), (q_1, .inr (9, [.ref r_2, .ref r_3, .ref r_4, .int 0, .int 0])), (r_2, .inl (g 0, 1601, .inl (fun _ => 0))), (r_3, .inl (g 0, 1601, .inl (fun _ => 0))), (r_4, .inl (g 0, 1601, .inl (fun _ => 0)))] H := hP
  have hD : va_D A [(h0, .inr (6, [.int 0, .int (-1), .ref q_1, .ref g0, .int 0, .int 0, .int 0, .int 0])), (q_1, .inr (9, [.ref r_2, .ref r_3, .ref r_4, .int 0, .int 0])), (r_2, .inl (g 0, 1601, .inl (fun _ => 0))), (r_3, .inl (g 0, 1601, .inl (fun _ => 0))), (r_4, .inl (g 0, 1601, .inl (fun _ => 0)))] := hD
  refine W.widen (k := 4) (n := 4808) (Nat.le_of_ble_eq_true rfl) (Nat.le_of_ble_eq_true rfl) ?_
  exact dk_vret hx hb hr hlocks hP hD hS ⟨q_1, r_2, r_3, r_4⟩ [0, 1, 2, 3, 4] rfl (by decide) trivial dX6_init_25
set_option maxHeartbeats 8000000 in
set_option maxRecDepth 100000 in
theorem c_rules_init (l : Launch) (g : Nat → ClassId) (D : va_G) (h0 : Nat) (sz : Nat) : Met l yX7_init wsX7_init ({ frames := 1, cells := 1, slots := 64, locals := 32 } : Room) (dk_Pc g D [(h0, .inr (7, [.int 0, .int 0, .int 0, .int 0, .int 0, .int 0, .null, .int 0]))] sz [.ref h0]) (va_Qv (fun (_ : Nat) => True) (dk_B D (va_A [(h0, .inr (7, [.int 0, .int 0, .int 0, .int 0, .int 0, .int 0, .null, .int 0]))] sz) (fun (u : Nat) => [(h0, .inr (7, [.int 0, .int 0, .int 0, .int 0, .int 0, .int 0, .ref u, .int 0]))])) (va_A [(h0, .inr (7, [.int 0, .int 0, .int 0, .int 0, .int 0, .int 0, .null, .int 0]))] sz)) 1 64 (va_A [(h0, .inr (7, [.int 0, .int 0, .int 0, .int 0, .int 0, .int 0, .null, .int 0]))] sz) := by
  refine dk_met (cc := cX7_init) (maxL := 1) (ret := none) (by decide) rfl (Nat.le_of_ble_eq_true rfl) ?_
  intro p e s m args below meth c harg hx hb hr hml hts hown hlocks hin hP K hD hS hA hsz ls hl
  subst hsz
  generalize va_A [(h0, .inr (7, [.int 0, .int 0, .int 0, .int 0, .int 0, .int 0, .null, .int 0]))] s.heap.size = A at hD hS hA ⊢
  have F : CallFix p m c cX7_init 1 s args wsX7_init RX7 := ⟨hx, hb, hml, hown, hts⟩
  have hl : lv_has ls 1 [(0, .ref h0)] := hl
  have iX7 : ∀ w ∈ wsX70, w ∈ wsX7_init := fun _ h => List.mem_cons_of_mem _ (List.mem_append_right _ h)
  refine lv_aload_n hx hb dX7_init_0 rfl (lv_at hl 0 rfl) ?_
  refine W.objInit hx hb hown (hts (.methodLink RX7 3 objectInit) (by decide +kernel)) (hts (.instanceMethod objectInit) (by decide +kernel)) (hts _ (List.mem_of_getElem? (i := 3) rfl)) rfl (by rw [hml]; exact hl.1) rfl dX7_init_1 (Nat.le_of_ble_eq_true rfl) (Nat.le_of_ble_eq_true rfl) ?_
  refine W.eq (g2 := F0 m 4 ls []) rfl ?_
  refine lv_aload_n hx hb dX7_init_4 rfl (lv_at hl 0 rfl) ?_
  refine lv_bipush (v := 64) hx hb dX7_init_5 (by decide +kernel) ?_
  refine dk_newa hx hb 0 rfl rfl (hts (.arrayClass .int) (by decide +kernel)) K hP hD hS hA (a0 := (64, .inl (fun _ => 0))) (fun _ => vp_cell_i _ _ _) (by decide +kernel) (N' := 64) (by decide +kernel) (Nat.le_of_ble_eq_true rfl) (Nat.le_of_ble_eq_true rfl) (Nat.le_of_ble_eq_true rfl) dX7_init_7 (fun q_1 H hP hD hS => ?_)
  have hP : va_P D vwCl [(h0, .inr (7, [.int 0, .int 0, .int 0, .int 0, .int 0, .int 0, .null, .int 0])), (q_1, .inl (g 0, 64, .inl (fun _ => 0)))] H := hP
  have hD : va_D A [(h0, .inr (7, [.int 0, .int 0, .int 0, .int 0, .int 0, .int 0, .null, .int 0])), (q_1, .inl (g 0, 64, .inl (fun _ => 0)))] := hD
  refine W.widen (k := 1) (n := 64) (by omega) (by omega) ?_
  refine va_putF (D := D) (ci := 7) (v := .ref q_1) (ty := tyX7 6) (C := RX7) (T := TX7) (N := 8) hx hb hts iX7 tyX7 tyX7_ok nmX7 hown K.1 hP hD hS 0 rfl rfl 6 (by decide) (hts (.fieldLink RX7 11 "DarkMine$Rules" "stack" "[I") (by decide +kernel)) (fun _ h9 => h9) rfl hin rfl (by decide +kernel) rfl rfl (Nat.le_of_ble_eq_true rfl) dX7_init_9 (fun H locs hP hD hS => ?_)
  have hP : va_P D vwCl [(h0, .inr (7, [.int 0, .int 0, .int 0, .int 0, .int 0, .int 0, .ref q_1, .int 0])), (q_1, .inl (g 0, 64, .inl (fun _ => 0)))] H := hP
  have hD : va_D A [(h0, .inr (7, [.int 0, .int 0, .int 0, .int 0, .int 0, .int 0, .ref q_1, .int 0])), (q_1, .inl (g 0, 64, .inl (fun _ => 0)))] := hD
  refine W.widen (k := 1) (n := 64) (Nat.le_of_ble_eq_true rfl) (Nat.le_of_ble_eq_true rfl) ?_
  exact dk_vret hx hb hr hlocks hP hD hS q_1 [0] rfl (by decide) trivial dX7_init_12
set_option maxHeartbeats 8000000 in
set_option maxRecDepth 100000 in
theorem c_works_init (l : Launch) (g : Nat → ClassId) (D : va_G) (h0 : Nat) (g0 : Nat) (p0 : Nat) (sz : Nat) : Met l yX10_init wsX10_init ({ frames := 2, cells := 6, slots := 360, locals := 52 } : Room) (dk_Pc g D [(h0, .inr (10, [.null, .null, .null, .null, .int 0, .null, .null, .null, .int 0, .int 0, .int 0, .int 0, .int 0]))] sz [.ref h0, .ref g0, .ref p0]) (va_Qv (fun (_ : Nat × Nat × Nat × Nat × Nat) => True) (dk_B D (va_A [(h0, .inr (10, [.null, .null, .null, .null, .int 0, .null, .null, .null, .int 0, .int 0, .int 0, .int 0, .int 0]))] sz) (fun (u : Nat × Nat × Nat × Nat × Nat) => [(h0, .inr (10, [.ref u.1, .ref u.2.1, .ref u.2.2.1, .ref u.2.2.2.1, .int 0, .ref u.2.2.2.2, .ref g0, .ref p0, .int 0, .int 1, .int (-1), .int (-1), .int (-1)]))])) (va_A [(h0, .inr (10, [.null, .null, .null, .null, .int 0, .null, .null, .null, .int 0, .int 0, .int 0, .int 0, .int 0]))] sz)) 6 360 (va_A [(h0, .inr (10, [.null, .null, .null, .null, .int 0, .null, .null, .null, .int 0, .int 0, .int 0, .int 0, .int 0]))] sz) := by
  refine dk_met (cc := cX10_init) (maxL := 3) (ret := none) (by decide) rfl (Nat.le_of_ble_eq_true rfl) ?_
  intro p e s m args below meth c harg hx hb hr hml hts hown hlocks hin hP K hD hS hA hsz ls hl
  subst hsz
  generalize va_A [(h0, .inr (10, [.null, .null, .null, .null, .int 0, .null, .null, .null, .int 0, .int 0, .int 0, .int 0, .int 0]))] s.heap.size = A at hD hS hA ⊢
  have F : CallFix p m c cX10_init 3 s args wsX10_init RX10 := ⟨hx, hb, hml, hown, hts⟩
  have hl : lv_has ls 3 [(0, .ref h0), (1, .ref g0), (2, .ref p0)] := hl
  have iX7 : ∀ w ∈ wsX70, w ∈ wsX10_init := fun _ h => List.mem_cons_of_mem _ (List.mem_append_left _ (List.mem_append_right _ h))
  have iX10 : ∀ w ∈ wsX100, w ∈ wsX10_init := fun _ h => List.mem_cons_of_mem _ (List.mem_append_right _ h)
  refine lv_aload_n hx hb dX10_init_0 rfl (lv_at hl 0 rfl) ?_
  refine W.objInit hx hb hown (hts (.methodLink RX10 3 objectInit) (by decide +kernel)) (hts (.instanceMethod objectInit) (by decide +kernel)) (hts _ (List.mem_of_getElem? (i := 3) rfl)) rfl (by rw [hml]; exact hl.1) rfl dX10_init_1 (Nat.le_of_ble_eq_true rfl) (Nat.le_of_ble_eq_true rfl) ?_
  refine W.eq (g2 := F0 m 4 ls []) rfl ?_
  refine lv_aload_n hx hb dX10_init_4 rfl (lv_at hl 0 rfl) ?_
  refine va_new (ci := 7) (fs := [.int 0, .int 0, .int 0, .int 0, .int 0, .int 0, .null, .int 0]) (C := RX7) (T := TX7) (N := 8) hx hb hts iX7 tyX7 tyX7_ok hown (hts (.classLink RX10 9 RX7) (by decide +kernel)) (hts (.instantiable RX7 8) (by decide +kernel)) (hts (.initialized RX7) (by decide +kernel)) K.1 hP hD hS hA rfl (fun j hj => by rcases (show j = 0 ∨ j = 1 ∨ j = 2 ∨ j = 3 ∨ j = 4 ∨ j = 5 ∨ j = 6 ∨ j = 7 by omega) with rfl | rfl | rfl | rfl | rfl | rfl | rfl | rfl <;> rfl) (Nat.le_of_ble_eq_true rfl) (Nat.le_of_ble_eq_true rfl) dX10_init_5 (fun q_1 H hP hD hS => ?_)
  have hP : va_P D vwCl [(h0, .inr (10, [.null, .null, .null, .null, .int 0, .null, .null, .null, .int 0, .int 0, .int 0, .int 0, .int 0])), (q_1, .inr (7, [.int 0, .int 0, .int 0, .int 0, .int 0, .int 0, .null, .int 0]))] H := hP
  have hD : va_D A [(h0, .inr (10, [.null, .null, .null, .null, .int 0, .null, .null, .null, .int 0, .int 0, .int 0, .int 0, .int 0])), (q_1, .inr (7, [.int 0, .int 0, .int 0, .int 0, .int 0, .int 0, .null, .int 0]))] := hD
  refine W.widen (k := 1) (n := 8) (by omega) (by omega) ?_
  refine lv_dup hx hb dX10_init_8 rfl ?_
  refine dk_backv hP hD hS hA (wr := [(h0, .inr (10, [.null, .null, .null, .null, .int 0, .null, .null, .null, .int 0, .int 0, .int 0, .int 0, .int 0]))]) [1] [0] rfl rfl (by decide) (by decide) (va_runIN (As := []) (rest := [.ref q_1, .ref h0]) F (c_rules_init l g D q_1 H.size) ⟨va_cnB 0 hts gX10_init_X7_init_n11 rfl rfl rfl (K.2.1 _ (List.mem_of_getElem? (i := 5) rfl)) (hts (.initialized RX7) (by decide +kernel)) (by decide +kernel) ⟨Nat.le_of_ble_eq_true rfl, Nat.le_of_ble_eq_true rfl⟩, rfl, hts (.instanceMethod yX7_init) (by decide +kernel)⟩ (dk_preS K hP hD [1] rfl (by decide)) rfl rfl hl.1 rfl (lv_room (Nat.le_of_ble_eq_true rfl)) dX10_init_9 ⟨Nat.le_of_ble_eq_true rfl, Nat.le_of_ble_eq_true rfl⟩) (fun u H locs hw hP hD hS => ?_)
  obtain ⟨r_2, rfl⟩ : ∃ z, z = u := ⟨_, rfl⟩
  have hP : va_P D vwCl [(h0, .inr (10, [.null, .null, .null, .null, .int 0, .null, .null, .null, .int 0, .int 0, .int 0, .int 0, .int 0])), (q_1, .inr (7, [.int 0, .int 0, .int 0, .int 0, .int 0, .int 0, .ref r_2, .int 0]))] H := hP
  have hD : va_D A [(h0, .inr (10, [.null, .null, .null, .null, .int 0, .null, .null, .null, .int 0, .int 0, .int 0, .int 0, .int 0])), (q_1, .inr (7, [.int 0, .int 0, .int 0, .int 0, .int 0, .int 0, .ref r_2, .int 0]))] := hD
  refine W.widen (k := 2) (n := 72) (by omega) (by omega) ?_
  refine va_putF (D := D) (ci := 10) (v := .ref q_1) (ty := tyX10 0) (C := RX10) (T := TX10) (N := 13) hx hb hts iX10 tyX10 tyX10_ok nmX10 hown K.1 hP hD hS 0 rfl rfl 0 (by decide) (hts (.fieldLink RX10 12 "DarkMine$Works" "rules" "LDarkMine$Rules;") (by decide +kernel)) (fun _ h9 => h9) rfl hin rfl (by decide +kernel) rfl rfl (Nat.le_of_ble_eq_true rfl) dX10_init_12 (fun H locs hP hD hS => ?_)
  have hP : va_P D vwCl [(h0, .inr (10, [.ref q_1, .null, .null, .null, .int 0, .null, .null, .null, .int 0, .int 0, .int 0, .int 0, .int 0])), (q_1, .inr (7, [.int 0, .int 0, .int 0, .int 0, .int 0, .int 0, .ref r_2, .int 0]))] H := hP
  have hD : va_D A [(h0, .inr (10, [.ref q_1, .null, .null, .null, .int 0, .null, .null, .null, .int 0, .int 0, .int 0, .int 0, .int 0])), (q_1, .inr (7, [.int 0, .int 0, .int 0, .int 0, .int 0, .int 0, .ref r_2, .int 0]))] := hD
  refine lv_aload_n hx hb dX10_init_15 rfl (lv_at hl 0 rfl) ?_
  refine lv_bipush (v := 72) hx hb dX10_init_16 (by decide +kernel) ?_
  refine dk_newa hx hb 0 rfl rfl (hts (.arrayClass .int) (by decide +kernel)) K hP hD hS hA (a0 := (72, .inl (fun _ => 0))) (fun _ => vp_cell_i _ _ _) (by decide +kernel) (N' := 72) (by decide +kernel) (Nat.le_of_ble_eq_true rfl) (Nat.le_of_ble_eq_true rfl) (Nat.le_of_ble_eq_true rfl) dX10_init_18 (fun q_3 H hP hD hS => ?_)
  have hP : va_P D vwCl [(h0, .inr (10, [.ref q_1, .null, .null, .null, .int 0, .null, .null, .null, .int 0, .int 0, .int 0, .int 0, .int 0])), (q_1, .inr (7, [.int 0, .int 0, .int 0, .int 0, .int 0, .int 0, .ref r_2, .int 0])), (q_3, .inl (g 0, 72, .inl (fun _ => 0)))] H := hP
  have hD : va_D A [(h0, .inr (10, [.ref q_1, .null, .null, .null, .int 0, .null, .null, .null, .int 0, .int 0, .int 0, .int 0, .int 0])), (q_1, .inr (7, [.int 0, .int 0, .int 0, .int 0, .int 0, .int 0, .ref r_2, .int 0])), (q_3, .inl (g 0, 72, .inl (fun _ => 0)))] := hD
  refine W.widen (k := 3) (n := 144) (by omega) (by omega) ?_
  refine va_putF (D := D) (ci := 10) (v := .ref q_3) (ty := tyX10 1) (C := RX10) (T := TX10) (N := 13) hx hb hts iX10 tyX10 tyX10_ok nmX10 hown K.1 hP hD hS 0 rfl rfl 1 (by decide) (hts (.fieldLink RX10 18 "DarkMine$Works" "far" "[I") (by decide +kernel)) (fun _ h9 => h9) rfl hin rfl (by decide +kernel) rfl rfl (Nat.le_of_ble_eq_true rfl) dX10_init_20 (fun H locs hP hD hS => ?_)
  have hP : va_P D vwCl [(h0, .inr (10, [.ref q_1, .ref q_3, .null, .null, .int 0, .null, .null, .null, .int 0, .int 0, .int 0, .int 0, .int 0])), (q_1, .inr (7, [.int 0, .int 0, .int 0, .int 0, .int 0, .int 0, .ref r_2, .int 0])), (q_3, .inl (g 0, 72, .inl (fun _ => 0)))] H := hP
  have hD : va_D A [(h0, .inr (10, [.ref q_1, .ref q_3, .null, .null, .int 0, .null, .null, .null, .int 0, .int 0, .int 0, .int 0, .int 0])), (q_1, .inr (7, [.int 0, .int 0, .int 0, .int 0, .int 0, .int 0, .ref r_2, .int 0])), (q_3, .inl (g 0, 72, .inl (fun _ => 0)))] := hD
  refine lv_aload_n hx hb dX10_init_23 rfl (lv_at hl 0 rfl) ?_
  refine lv_bipush (v := 72) hx hb dX10_init_24 (by decide +kernel) ?_
  refine dk_newa hx hb 0 rfl rfl (hts (.arrayClass .int) (by decide +kernel)) K hP hD hS hA (a0 := (72, .inl (fun _ => 0))) (fun _ => vp_cell_i _ _ _) (by decide +kernel) (N' := 72) (by decide +kernel) (Nat.le_of_ble_eq_true rfl) (Nat.le_of_ble_eq_true rfl) (Nat.le_of_ble_eq_true rfl) dX10_init_26 (fun q_4 H hP hD hS => ?_)
  have hP : va_P D vwCl [(h0, .inr (10, [.ref q_1, .ref q_3, .null, .null, .int 0, .null, .null, .null, .int 0, .int 0, .int 0, .int 0, .int 0])), (q_1, .inr (7, [.int 0, .int 0, .int 0, .int 0, .int 0, .int 0, .ref r_2, .int 0])), (q_3, .inl (g 0, 72, .inl (fun _ => 0))), (q_4, .inl (g 0, 72, .inl (fun _ => 0)))] H := hP
  have hD : va_D A [(h0, .inr (10, [.ref q_1, .ref q_3, .null, .null, .int 0, .null, .null, .null, .int 0, .int 0, .int 0, .int 0, .int 0])), (q_1, .inr (7, [.int 0, .int 0, .int 0, .int 0, .int 0, .int 0, .ref r_2, .int 0])), (q_3, .inl (g 0, 72, .inl (fun _ => 0))), (q_4, .inl (g 0, 72, .inl (fun _ => 0)))] := hD
  refine W.widen (k := 4) (n := 216) (by omega) (by omega) ?_
  refine va_putF (D := D) (ci := 10) (v := .ref q_4) (ty := tyX10 2) (C := RX10) (T := TX10) (N := 13) hx hb hts iX10 tyX10 tyX10_ok nmX10 hown K.1 hP hD hS 0 rfl rfl 2 (by decide) (hts (.fieldLink RX10 22 "DarkMine$Works" "beam" "[I") (by decide +kernel)) (fun _ h9 => h9) rfl hin rfl (by decide +kernel) rfl rfl (Nat.le_of_ble_eq_true rfl) dX10_init_28 (fun H locs hP hD hS => ?_)
  have hP : va_P D vwCl [(h0, .inr (10, [.ref q_1, .ref q_3, .ref q_4, .null, .int 0, .null, .null, .null, .int 0, .int 0, .int 0, .int 0, .int 0])), (q_1, .inr (7, [.int 0, .int 0, .int 0, .int 0, .int 0, .int 0, .ref r_2, .int 0])), (q_3, .inl (g 0, 72, .inl (fun _ => 0))), (q_4, .inl (g 0, 72, .inl (fun _ => 0)))] H := hP
  have hD : va_D A [(h0, .inr (10, [.ref q_1, .ref q_3, .ref q_4, .null, .int 0, .null, .null, .null, .int 0, .int 0, .int 0, .int 0, .int 0])), (q_1, .inr (7, [.int 0, .int 0, .int 0, .int 0, .int 0, .int 0, .ref r_2, .int 0])), (q_3, .inl (g 0, 72, .inl (fun _ => 0))), (q_4, .inl (g 0, 72, .inl (fun _ => 0)))] := hD
  refine lv_aload_n hx hb dX10_init_31 rfl (lv_at hl 0 rfl) ?_
  refine lv_bipush (v := 72) hx hb dX10_init_32 (by decide +kernel) ?_
  refine dk_newa hx hb 0 rfl rfl (hts (.arrayClass .int) (by decide +kernel)) K hP hD hS hA (a0 := (72, .inl (fun _ => 0))) (fun _ => vp_cell_i _ _ _) (by decide +kernel) (N' := 72) (by decide +kernel) (Nat.le_of_ble_eq_true rfl) (Nat.le_of_ble_eq_true rfl) (Nat.le_of_ble_eq_true rfl) dX10_init_34 (fun q_5 H hP hD hS => ?_)
  have hP : va_P D vwCl [(h0, .inr (10, [.ref q_1, .ref q_3, .ref q_4, .null, .int 0, .null, .null, .null, .int 0, .int 0, .int 0, .int 0, .int 0])), (q_1, .inr (7, [.int 0, .int 0, .int 0, .int 0, .int 0, .int 0, .ref r_2, .int 0])), (q_3, .inl (g 0, 72, .inl (fun _ => 0))), (q_4, .inl (g 0, 72, .inl (fun _ => 0))), (q_5, .inl (g 0, 72, .inl (fun _ => 0)))] H := hP
  have hD : va_D A [(h0, .inr (10, [.ref q_1, .ref q_3, .ref q_4, .null, .int 0, .null, .null, .null, .int 0, .int 0, .int 0, .int 0, .int 0])), (q_1, .inr (7, [.int 0, .int 0, .int 0, .int 0, .int 0, .int 0, .ref r_2, .int 0])), (q_3, .inl (g 0, 72, .inl (fun _ => 0))), (q_4, .inl (g 0, 72, .inl (fun _ => 0))), (q_5, .inl (g 0, 72, .inl (fun _ => 0)))] := hD
  refine W.widen (k := 5) (n := 288) (by omega) (by omega) ?_
  refine va_putF (D := D) (ci := 10) (v := .ref q_5) (ty := tyX10 3) (C := RX10) (T := TX10) (N := 13) hx hb hts iX10 tyX10 tyX10_ok nmX10 hown K.1 hP hD hS 0 rfl rfl 3 (by decide) (hts (.fieldLink RX10 25 "DarkMine$Works" "exposed" "[I") (by decide +kernel)) (fun _ h9 => h9) rfl hin rfl (by decide +kernel) rfl rfl (Nat.le_of_ble_eq_true rfl) dX10_init_36 (fun H locs hP hD hS => ?_)
  have hP : va_P D vwCl [(h0, .inr (10, [.ref q_1, .ref q_3, .ref q_4, .ref q_5, .int 0, .null, .null, .null, .int 0, .int 0, .int 0, .int 0, .int 0])), (q_1, .inr (7, [.int 0, .int 0, .int 0, .int 0, .int 0, .int 0, .ref r_2, .int 0])), (q_3, .inl (g 0, 72, .inl (fun _ => 0))), (q_4, .inl (g 0, 72, .inl (fun _ => 0))), (q_5, .inl (g 0, 72, .inl (fun _ => 0)))] H := hP
  have hD : va_D A [(h0, .inr (10, [.ref q_1, .ref q_3, .ref q_4, .ref q_5, .int 0, .null, .null, .null, .int 0, .int 0, .int 0, .int 0, .int 0])), (q_1, .inr (7, [.int 0, .int 0, .int 0, .int 0, .int 0, .int 0, .ref r_2, .int 0])), (q_3, .inl (g 0, 72, .inl (fun _ => 0))), (q_4, .inl (g 0, 72, .inl (fun _ => 0))), (q_5, .inl (g 0, 72, .inl (fun _ => 0)))] := hD
  refine lv_aload_n hx hb dX10_init_39 rfl (lv_at hl 0 rfl) ?_
  refine lv_bipush (v := 72) hx hb dX10_init_40 (by decide +kernel) ?_
  refine dk_newa hx hb 0 rfl rfl (hts (.arrayClass .int) (by decide +kernel)) K hP hD hS hA (a0 := (72, .inl (fun _ => 0))) (fun _ => vp_cell_i _ _ _) (by decide +kernel) (N' := 72) (by decide +kernel) (Nat.le_of_ble_eq_true rfl) (Nat.le_of_ble_eq_true rfl) (Nat.le_of_ble_eq_true rfl) dX10_init_42 (fun q_6 H hP hD hS => ?_)
  have hP : va_P D vwCl [(h0, .inr (10, [.ref q_1, .ref q_3, .ref q_4, .ref q_5, .int 0, .null, .null, .null, .int 0, .int 0, .int 0, .int 0, .int 0])), (q_1, .inr (7, [.int 0, .int 0, .int 0, .int 0, .int 0, .int 0, .ref r_2, .int 0])), (q_3, .inl (g 0, 72, .inl (fun _ => 0))), (q_4, .inl (g 0, 72, .inl (fun _ => 0))), (q_5, .inl (g 0, 72, .inl (fun _ => 0))), (q_6, .inl (g 0, 72, .inl (fun _ => 0)))] H := hP
  have hD : va_D A [(h0, .inr (10, [.ref q_1, .ref q_3, .ref q_4, .ref q_5, .int 0, .null, .null, .null, .int 0, .int 0, .int 0, .int 0, .int 0])), (q_1, .inr (7, [.int 0, .int 0, .int 0, .int 0, .int 0, .int 0, .ref r_2, .int 0])), (q_3, .inl (g 0, 72, .inl (fun _ => 0))), (q_4, .inl (g 0, 72, .inl (fun _ => 0))), (q_5, .inl (g 0, 72, .inl (fun _ => 0))), (q_6, .inl (g 0, 72, .inl (fun _ => 0)))] := hD
  refine W.widen (k := 6) (n := 360) (by omega) (by omega) ?_
  refine va_putF (D := D) (ci := 10) (v := .ref q_6) (ty := tyX10 5) (C := RX10) (T := TX10) (N := 13) hx hb hts iX10 tyX10 tyX10_ok nmX10 hown K.1 hP hD hS 0 rfl rfl 5 (by decide) (hts (.fieldLink RX10 28 "DarkMine$Works" "queue" "[I") (by decide +kernel)) (fun _ h9 => h9) rfl hin rfl (by decide +kernel) rfl rfl (Nat.le_of_ble_eq_true rfl) dX10_init_44 (fun H locs hP hD hS => ?_)
  have hP : va_P D vwCl [(h0, .inr (10, [.ref q_1, .ref q_3, .ref q_4, .ref q_5, .int 0, .ref q_6, .null, .null, .int 0, .int 0, .int 0, .int 0, .int 0])), (q_1, .inr (7, [.int 0, .int 0, .int 0, .int 0, .int 0, .int 0, .ref r_2, .int 0])), (q_3, .inl (g 0, 72, .inl (fun _ => 0))), (q_4, .inl (g 0, 72, .inl (fun _ => 0))), (q_5, .inl (g 0, 72, .inl (fun _ => 0))), (q_6, .inl (g 0, 72, .inl (fun _ => 0)))] H := hP
  have hD : va_D A [(h0, .inr (10, [.ref q_1, .ref q_3, .ref q_4, .ref q_5, .int 0, .ref q_6, .null, .null, .int 0, .int 0, .int 0, .int 0, .int 0])), (q_1, .inr (7, [.int 0, .int 0, .int 0, .int 0, .int 0, .int 0, .ref r_2, .int 0])), (q_3, .inl (g 0, 72, .inl (fun _ => 0))), (q_4, .inl (g 0, 72, .inl (fun _ => 0))), (q_5, .inl (g 0, 72, .inl (fun _ => 0))), (q_6, .inl (g 0, 72, .inl (fun _ => 0)))] := hD
  refine lv_aload_n hx hb dX10_init_47 rfl (lv_at hl 0 rfl) ?_
  refine lv_iconst (v := (-1)) hx hb dX10_init_48 (by decide +kernel) ?_
  refine va_put (D := D) (ci := 10) (v := .int (-1)) (ty := tyX10 10) (C := RX10) (T := TX10) (N := 13) hx hb hts iX10 tyX10 tyX10_ok nmX10 hown K.1 hP hD hS 0 rfl rfl 10 (by decide) (hts (.fieldLink RX10 31 "DarkMine$Works" "dugMiner" "I") (by decide +kernel)) (fun _ h9 => h9) rfl (by decide +kernel) rfl rfl (Nat.le_of_ble_eq_true rfl) dX10_init_49 (fun H locs hP hD hS => ?_)
  have hP : va_P D vwCl [(h0, .inr (10, [.ref q_1, .ref q_3, .ref q_4, .ref q_5, .int 0, .ref q_6, .null, .null, .int 0, .int 0, .int (-1), .int 0, .int 0])), (q_1, .inr (7, [.int 0, .int 0, .int 0, .int 0, .int 0, .int 0, .ref r_2, .int 0])), (q_3, .inl (g 0, 72, .inl (fun _ => 0))), (q_4, .inl (g 0, 72, .inl (fun _ => 0))), (q_5, .inl (g 0, 72, .inl (fun _ => 0))), (q_6, .inl (g 0, 72, .inl (fun _ => 0)))] H := hP
  have hD : va_D A [(h0, .inr (10, [.ref q_1, .ref q_3, .ref q_4, .ref q_5, .int 0, .ref q_6, .null, .null, .int 0, .int 0, .int (-1), .int 0, .int 0])), (q_1, .inr (7, [.int 0, .int 0, .int 0, .int 0, .int 0, .int 0, .ref r_2, .int 0])), (q_3, .inl (g 0, 72, .inl (fun _ => 0))), (q_4, .inl (g 0, 72, .inl (fun _ => 0))), (q_5, .inl (g 0, 72, .inl (fun _ => 0))), (q_6, .inl (g 0, 72, .inl (fun _ => 0)))] := hD
  refine lv_aload_n hx hb dX10_init_52 rfl (lv_at hl 0 rfl) ?_
  refine lv_iconst (v := (-1)) hx hb dX10_init_53 (by decide +kernel) ?_
  refine va_put (D := D) (ci := 10) (v := .int (-1)) (ty := tyX10 11) (C := RX10) (T := TX10) (N := 13) hx hb hts iX10 tyX10 tyX10_ok nmX10 hown K.1 hP hD hS 0 rfl rfl 11 (by decide) (hts (.fieldLink RX10 35 "DarkMine$Works" "dugPlace" "I") (by decide +kernel)) (fun _ h9 => h9) rfl (by decide +kernel) rfl rfl (Nat.le_of_ble_eq_true rfl) dX10_init_54 (fun H locs hP hD hS => ?_)
  have hP : va_P D vwCl [(h0, .inr (10, [.ref q_1, .ref q_3, .ref q_4, .ref q_5, .int 0, .ref q_6, .null, .null, .int 0, .int 0, .int (-1), .int (-1), .int 0])), (q_1, .inr (7, [.int 0, .int 0, .int 0, .int 0, .int 0, .int 0, .ref r_2, .int 0])), (q_3, .inl (g 0, 72, .inl (fun _ => 0))), (q_4, .inl (g 0, 72, .inl (fun _ => 0))), (q_5, .inl (g 0, 72, .inl (fun _ => 0))), (q_6, .inl (g 0, 72, .inl (fun _ => 0)))] H := hP
  have hD : va_D A [(h0, .inr (10, [.ref q_1, .ref q_3, .ref q_4, .ref q_5, .int 0, .ref q_6, .null, .null, .int 0, .int 0, .int (-1), .int (-1), .int 0])), (q_1, .inr (7, [.int 0, .int 0, .int 0, .int 0, .int 0, .int 0, .ref r_2, .int 0])), (q_3, .inl (g 0, 72, .inl (fun _ => 0))), (q_4, .inl (g 0, 72, .inl (fun _ => 0))), (q_5, .inl (g 0, 72, .inl (fun _ => 0))), (q_6, .inl (g 0, 72, .inl (fun _ => 0)))] := hD
  refine lv_aload_n hx hb dX10_init_57 rfl (lv_at hl 0 rfl) ?_
  refine lv_iconst (v := (-1)) hx hb dX10_init_58 (by decide +kernel) ?_
  refine va_put (D := D) (ci := 10) (v := .int (-1)) (ty := tyX10 12) (C := RX10) (T := TX10) (N := 13) hx hb hts iX10 tyX10 tyX10_ok nmX10 hown K.1 hP hD hS 0 rfl rfl 12 (by decide) (hts (.fieldLink RX10 38 "DarkMine$Works" "dugGrade" "I") (by decide +kernel)) (fun _ h9 => h9) rfl (by decide +kernel) rfl rfl (Nat.le_of_ble_eq_true rfl) dX10_init_59 (fun H locs hP hD hS => ?_)
  have hP : va_P D vwCl [(h0, .inr (10, [.ref q_1, .ref q_3, .ref q_4, .ref q_5, .int 0, .ref q_6, .null, .null, .int 0, .int 0, .int (-1), .int (-1), .int (-1)])), (q_1, .inr (7, [.int 0, .int 0, .int 0, .int 0, .int 0, .int 0, .ref r_2, .int 0])), (q_3, .inl (g 0, 72, .inl (fun _ => 0))), (q_4, .inl (g 0, 72, .inl (fun _ => 0))), (q_5, .inl (g 0, 72, .inl (fun _ => 0))), (q_6, .inl (g 0, 72, .inl (fun _ => 0)))] H := hP
  have hD : va_D A [(h0, .inr (10, [.ref q_1, .ref q_3, .ref q_4, .ref q_5, .int 0, .ref q_6, .null, .null, .int 0, .int 0, .int (-1), .int (-1), .int (-1)])), (q_1, .inr (7, [.int 0, .int 0, .int 0, .int 0, .int 0, .int 0, .ref r_2, .int 0])), (q_3, .inl (g 0, 72, .inl (fun _ => 0))), (q_4, .inl (g 0, 72, .inl (fun _ => 0))), (q_5, .inl (g 0, 72, .inl (fun _ => 0))), (q_6, .inl (g 0, 72, .inl (fun _ => 0)))] := hD
  refine lv_aload_n hx hb dX10_init_62 rfl (lv_at hl 0 rfl) ?_
  refine lv_aload_n hx hb dX10_init_63 rfl (lv_at hl 1 rfl) ?_
  refine va_put (D := D) (ci := 10) (v := .ref g0) (ty := tyX10 6) (C := RX10) (T := TX10) (N := 13) hx hb hts iX10 tyX10 tyX10_ok nmX10 hown K.1 hP hD hS 0 rfl rfl 6 (by decide) (hts (.fieldLink RX10 41 "DarkMine$Works" "ground" "LDarkMine$Ground;") (by decide +kernel)) (fun _ h9 => h9) rfl (by decide +kernel) rfl rfl (Nat.le_of_ble_eq_true rfl) dX10_init_64 (fun H locs hP hD hS => ?_)
  have hP : va_P D vwCl [(h0, .inr (10, [.ref q_1, .ref q_3, .ref q_4, .ref q_5, .int 0, .ref q_6, .ref g0, .null, .int 0, .int 0, .int (-1), .int (-1), .int (-1)])), (q_1, .inr (7, [.int 0, .int 0, .int 0, .int 0, .int 0, .int 0, .ref r_2, .int 0])), (q_3, .inl (g 0, 72, .inl (fun _ => 0))), (q_4, .inl (g 0, 72, .inl (fun _ => 0))), (q_5, .inl (g 0, 72, .inl (fun _ => 0))), (q_6, .inl (g 0, 72, .inl (fun _ => 0)))] H := hP
  have hD : va_D A [(h0, .inr (10, [.ref q_1, .ref q_3, .ref q_4, .ref q_5, .int 0, .ref q_6, .ref g0, .null, .int 0, .int 0, .int (-1), .int (-1), .int (-1)])), (q_1, .inr (7, [.int 0, .int 0, .int 0, .int 0, .int 0, .int 0, .ref r_2, .int 0])), (q_3, .inl (g 0, 72, .inl (fun _ => 0))), (q_4, .inl (g 0, 72, .inl (fun _ => 0))), (q_5, .inl (g 0, 72, .inl (fun _ => 0))), (q_6, .inl (g 0, 72, .inl (fun _ => 0)))] := hD
  refine lv_aload_n hx hb dX10_init_67 rfl (lv_at hl 0 rfl) ?_
  refine lv_aload_n hx hb dX10_init_68 rfl (lv_at hl 2 rfl) ?_
  refine va_put (D := D) (ci := 10) (v := .ref p0) (ty := tyX10 7) (C := RX10) (T := TX10) (N := 13) hx hb hts iX10 tyX10 tyX10_ok nmX10 hown K.1 hP hD hS 0 rfl rfl 7 (by decide) (hts (.fieldLink RX10 45 "DarkMine$Works" "pit" "LDarkMine$Pit;") (by decide +kernel)) (fun _ h9 => h9) rfl (by decide +kernel) rfl rfl (Nat.le_of_ble_eq_true rfl) dX10_init_69 (fun H locs hP hD hS => ?_)
  have hP : va_P D vwCl [(h0, .inr (10, [.ref q_1, .ref q_3, .ref q_4, .ref q_5, .int 0, .ref q_6, .ref g0, .ref p0, .int 0, .int 0, .int (-1), .int (-1), .int (-1)])), (q_1, .inr (7, [.int 0, .int 0, .int 0, .int 0, .int 0, .int 0, .ref r_2, .int 0])), (q_3, .inl (g 0, 72, .inl (fun _ => 0))), (q_4, .inl (g 0, 72, .inl (fun _ => 0))), (q_5, .inl (g 0, 72, .inl (fun _ => 0))), (q_6, .inl (g 0, 72, .inl (fun _ => 0)))] H := hP
  have hD : va_D A [(h0, .inr (10, [.ref q_1, .ref q_3, .ref q_4, .ref q_5, .int 0, .ref q_6, .ref g0, .ref p0, .int 0, .int 0, .int (-1), .int (-1), .int (-1)])), (q_1, .inr (7, [.int 0, .int 0, .int 0, .int 0, .int 0, .int 0, .ref r_2, .int 0])), (q_3, .inl (g 0, 72, .inl (fun _ => 0))), (q_4, .inl (g 0, 72, .inl (fun _ => 0))), (q_5, .inl (g 0, 72, .inl (fun _ => 0))), (q_6, .inl (g 0, 72, .inl (fun _ => 0)))] := hD
  refine lv_aload_n hx hb dX10_init_72 rfl (lv_at hl 0 rfl) ?_
  refine lv_iconst (v := 1) hx hb dX10_init_73 (by decide +kernel) ?_
  refine va_put (D := D) (ci := 10) (v := .int 1) (ty := tyX10 9) (C := RX10) (T := TX10) (N := 13) hx hb hts iX10 tyX10 tyX10_ok nmX10 hown K.1 hP hD hS 0 rfl rfl 9 (by decide) (hts (.fieldLink RX10 49 "DarkMine$Works" "stale" "Z") (by decide +kernel)) (fun _ h9 => h9) rfl (by decide +kernel) (by decide +kernel) (by decide +kernel) (Nat.le_of_ble_eq_true rfl) dX10_init_74 (fun H locs hP hD hS => ?_)
  have hP : va_P D vwCl [(h0, .inr (10, [.ref q_1, .ref q_3, .ref q_4, .ref q_5, .int 0, .ref q_6, .ref g0, .ref p0, .int 0, .int 1, .int (-1), .int (-1), .int (-1)])), (q_1, .inr (7, [.int 0, .int 0, .int 0, .int 0, .int 0, .int 0, .ref r_2, .int 0])), (q_3, .inl (g 0, 72, .inl (fun _ => 0))), (q_4, .inl (g 0, 72, .inl (fun _ => 0))), (q_5, .inl (g 0, 72, .inl (fun _ => 0))), (q_6, .inl (g 0, 72, .inl (fun _ => 0)))] H := hP
  have hD : va_D A [(h0, .inr (10, [.ref q_1, .ref q_3, .ref q_4, .ref q_5, .int 0, .ref q_6, .ref g0, .ref p0, .int 0, .int 1, .int (-1), .int (-1), .int (-1)])), (q_1, .inr (7, [.int 0, .int 0, .int 0, .int 0, .int 0, .int 0, .ref r_2, .int 0])), (q_3, .inl (g 0, 72, .inl (fun _ => 0))), (q_4, .inl (g 0, 72, .inl (fun _ => 0))), (q_5, .inl (g 0, 72, .inl (fun _ => 0))), (q_6, .inl (g 0, 72, .inl (fun _ => 0)))] := hD
  refine W.widen (k := 6) (n := 360) (Nat.le_of_ble_eq_true rfl) (Nat.le_of_ble_eq_true rfl) ?_
  exact dk_vret hx hb hr hlocks hP hD hS ⟨q_1, q_3, q_4, q_5, q_6⟩ [0] rfl (by decide) trivial dX10_init_77
set_option maxHeartbeats 8000000 in
set_option maxRecDepth 100000 in
theorem c_foresight_init (l : Launch) (g : Nat → ClassId) (D : va_G) (h0 : Nat) (w0 : Nat) (sz : Nat) : Met l yX1_init wsX1_init ({ frames := 2, cells := 7, slots := 133, locals := 52 } : Room) (dk_Pc g D [(h0, .inr (1, [.null, .null, .int 0, .int 0, .int 0, .int 0, .int 0, .int 0, .int 0]))] sz [.ref h0, .ref w0]) (va_Qv (fun (_ : Nat) => True) (dk_B D (va_A [(h0, .inr (1, [.null, .null, .int 0, .int 0, .int 0, .int 0, .int 0, .int 0, .int 0]))] sz) (fun (u : Nat) => [(h0, .inr (1, [.ref w0, .ref u, .int 0, .int 0, .int (-1), .int (-1), .int (-1), .int (-1), .int (-1)]))])) (va_A [(h0, .inr (1, [.null, .null, .int 0, .int 0, .int 0, .int 0, .int 0, .int 0, .int 0]))] sz)) 7 133 (va_A [(h0, .inr (1, [.null, .null, .int 0, .int 0, .int 0, .int 0, .int 0, .int 0, .int 0]))] sz) := by
  refine dk_met (cc := cX1_init) (maxL := 2) (ret := none) (by decide) rfl (Nat.le_of_ble_eq_true rfl) ?_
  intro p e s m args below meth c harg hx hb hr hml hts hown hlocks hin hP K hD hS hA hsz ls hl
  subst hsz
  generalize va_A [(h0, .inr (1, [.null, .null, .int 0, .int 0, .int 0, .int 0, .int 0, .int 0, .int 0]))] s.heap.size = A at hD hS hA ⊢
  have F : CallFix p m c cX1_init 2 s args wsX1_init RX1 := ⟨hx, hb, hml, hown, hts⟩
  have hl : lv_has ls 2 [(0, .ref h0), (1, .ref w0)] := hl
  have iX5 : ∀ w ∈ wsX50, w ∈ wsX1_init := fun _ h => List.mem_cons_of_mem _ (List.mem_append_left _ (List.mem_append_right _ h))
  have iX1 : ∀ w ∈ wsX10, w ∈ wsX1_init := fun _ h => List.mem_cons_of_mem _ (List.mem_append_right _ h)
  refine lv_aload_n hx hb dX1_init_0 rfl (lv_at hl 0 rfl) ?_
  refine W.objInit hx hb hown (hts (.methodLink RX1 3 objectInit) (by decide +kernel)) (hts (.instanceMethod objectInit) (by decide +kernel)) (hts _ (List.mem_of_getElem? (i := 3) rfl)) rfl (by rw [hml]; exact hl.1) rfl dX1_init_1 (Nat.le_of_ble_eq_true rfl) (Nat.le_of_ble_eq_true rfl) ?_
  refine W.eq (g2 := F0 m 4 ls []) rfl ?_
  refine lv_aload_n hx hb dX1_init_4 rfl (lv_at hl 0 rfl) ?_
  refine va_new (ci := 5) (fs := [.int 0, .int 0, .null, .null, .null, .null, .null, .null]) (C := RX5) (T := TX5) (N := 8) hx hb hts iX5 tyX5 tyX5_ok hown (hts (.classLink RX1 9 RX5) (by decide +kernel)) (hts (.instantiable RX5 8) (by decide +kernel)) (hts (.initialized RX5) (by decide +kernel)) K.1 hP hD hS hA rfl (fun j hj => by rcases (show j = 0 ∨ j = 1 ∨ j = 2 ∨ j = 3 ∨ j = 4 ∨ j = 5 ∨ j = 6 ∨ j = 7 by omega) with rfl | rfl | rfl | rfl | rfl | rfl | rfl | rfl <;> rfl) (Nat.le_of_ble_eq_true rfl) (Nat.le_of_ble_eq_true rfl) dX1_init_5 (fun q_1 H hP hD hS => ?_)
  have hP : va_P D vwCl [(h0, .inr (1, [.null, .null, .int 0, .int 0, .int 0, .int 0, .int 0, .int 0, .int 0])), (q_1, .inr (5, [.int 0, .int 0, .null, .null, .null, .null, .null, .null]))] H := hP
  have hD : va_D A [(h0, .inr (1, [.null, .null, .int 0, .int 0, .int 0, .int 0, .int 0, .int 0, .int 0])), (q_1, .inr (5, [.int 0, .int 0, .null, .null, .null, .null, .null, .null]))] := hD
  refine W.widen (k := 1) (n := 8) (by omega) (by omega) ?_
  refine lv_dup hx hb dX1_init_8 rfl ?_
  refine dk_backv hP hD hS hA (wr := [(h0, .inr (1, [.null, .null, .int 0, .int 0, .int 0, .int 0, .int 0, .int 0, .int 0]))]) [1] [0] rfl rfl (by decide) (by decide) (va_runIN (As := []) (rest := [.ref q_1, .ref h0]) F (c_pit_init l g D q_1 H.size) ⟨va_cnB 0 hts gX1_init_X5_init_n11 rfl rfl rfl (K.2.1 _ (List.mem_of_getElem? (i := 6) rfl)) (hts (.initialized RX5) (by decide +kernel)) (by decide +kernel) ⟨Nat.le_of_ble_eq_true rfl, Nat.le_of_ble_eq_true rfl⟩, rfl, hts (.instanceMethod yX5_init) (by decide +kernel)⟩ (dk_preS K hP hD [1] rfl (by decide)) rfl rfl hl.1 rfl (lv_room (Nat.le_of_ble_eq_true rfl)) dX1_init_9 ⟨Nat.le_of_ble_eq_true rfl, Nat.le_of_ble_eq_true rfl⟩) (fun u H locs hw hP hD hS => ?_)
  obtain ⟨r_2, r_3, r_4, r_5, r_6, r_7⟩ := u
  have hP : va_P D vwCl [(h0, .inr (1, [.null, .null, .int 0, .int 0, .int 0, .int 0, .int 0, .int 0, .int 0])), (q_1, .inr (5, [.int 0, .int 0, .ref r_2, .ref r_3, .ref r_4, .ref r_5, .ref r_6, .ref r_7])), (r_2, .inl (g 0, 72, .inl (fun _ => 0))), (r_3, .inl (g 0, 6, .inl (fun _ => 0))), (r_4, .inl (g 0, 16, .inl (fun _ => 0))), (r_5, .inl (g 0, 16, .inl (fun _ => 0))), (r_6, .inl (g 0, 5, .inl (fun _ => 0))), (r_7, .inl (g 0, 10, .inl (fun _ => 0)))] H := hP
  have hD : va_D A [(h0, .inr (1, [.null, .null, .int 0, .int 0, .int 0, .int 0, .int 0, .int 0, .int 0])), (q_1, .inr (5, [.int 0, .int 0, .ref r_2, .ref r_3, .ref r_4, .ref r_5, .ref r_6, .ref r_7])), (r_2, .inl (g 0, 72, .inl (fun _ => 0))), (r_3, .inl (g 0, 6, .inl (fun _ => 0))), (r_4, .inl (g 0, 16, .inl (fun _ => 0))), (r_5, .inl (g 0, 16, .inl (fun _ => 0))), (r_6, .inl (g 0, 5, .inl (fun _ => 0))), (r_7, .inl (g 0, 10, .inl (fun _ => 0)))] := hD
  refine W.widen (k := 7) (n := 133) (by omega) (by omega) ?_
  refine va_putF (D := D) (ci := 1) (v := .ref q_1) (ty := tyX1 1) (C := RX1) (T := TX1) (N := 9) hx hb hts iX1 tyX1 tyX1_ok nmX1 hown K.1 hP hD hS 0 rfl rfl 1 (by decide) (hts (.fieldLink RX1 12 "DarkMine$Foresight" "trial" "LDarkMine$Pit;") (by decide +kernel)) (fun _ h9 => h9) rfl hin rfl (by decide +kernel) rfl rfl (Nat.le_of_ble_eq_true rfl) dX1_init_12 (fun H locs hP hD hS => ?_)
  have hP : va_P D vwCl [(h0, .inr (1, [.null, .ref q_1, .int 0, .int 0, .int 0, .int 0, .int 0, .int 0, .int 0])), (q_1, .inr (5, [.int 0, .int 0, .ref r_2, .ref r_3, .ref r_4, .ref r_5, .ref r_6, .ref r_7])), (r_2, .inl (g 0, 72, .inl (fun _ => 0))), (r_3, .inl (g 0, 6, .inl (fun _ => 0))), (r_4, .inl (g 0, 16, .inl (fun _ => 0))), (r_5, .inl (g 0, 16, .inl (fun _ => 0))), (r_6, .inl (g 0, 5, .inl (fun _ => 0))), (r_7, .inl (g 0, 10, .inl (fun _ => 0)))] H := hP
  have hD : va_D A [(h0, .inr (1, [.null, .ref q_1, .int 0, .int 0, .int 0, .int 0, .int 0, .int 0, .int 0])), (q_1, .inr (5, [.int 0, .int 0, .ref r_2, .ref r_3, .ref r_4, .ref r_5, .ref r_6, .ref r_7])), (r_2, .inl (g 0, 72, .inl (fun _ => 0))), (r_3, .inl (g 0, 6, .inl (fun _ => 0))), (r_4, .inl (g 0, 16, .inl (fun _ => 0))), (r_5, .inl (g 0, 16, .inl (fun _ => 0))), (r_6, .inl (g 0, 5, .inl (fun _ => 0))), (r_7, .inl (g 0, 10, .inl (fun _ => 0)))] := hD
  refine lv_aload_n hx hb dX1_init_15 rfl (lv_at hl 0 rfl) ?_
  refine lv_iconst (v := (-1)) hx hb dX1_init_16 (by decide +kernel) ?_
  refine va_put (D := D) (ci := 1) (v := .int (-1)) (ty := tyX1 4) (C := RX1) (T := TX1) (N := 9) hx hb hts iX1 tyX1 tyX1_ok nmX1 hown K.1 hP hD hS 0 rfl rfl 4 (by decide) (hts (.fieldLink RX1 18 "DarkMine$Foresight" "shadePlace" "I") (by decide +kernel)) (fun _ h9 => h9) rfl (by decide +kernel) rfl rfl (Nat.le_of_ble_eq_true rfl) dX1_init_17 (fun H locs hP hD hS => ?_)
  have hP : va_P D vwCl [(h0, .inr (1, [.null, .ref q_1, .int 0, .int 0, .int (-1), .int 0, .int 0, .int 0, .int 0])), (q_1, .inr (5, [.int 0, .int 0, .ref r_2, .ref r_3, .ref r_4, .ref r_5, .ref r_6, .ref r_7])), (r_2, .inl (g 0, 72, .inl (fun _ => 0))), (r_3, .inl (g 0, 6, .inl (fun _ => 0))), (r_4, .inl (g 0, 16, .inl (fun _ => 0))), (r_5, .inl (g 0, 16, .inl (fun _ => 0))), (r_6, .inl (g 0, 5, .inl (fun _ => 0))), (r_7, .inl (g 0, 10, .inl (fun _ => 0)))] H := hP
  have hD : va_D A [(h0, .inr (1, [.null, .ref q_1, .int 0, .int 0, .int (-1), .int 0, .int 0, .int 0, .int 0])), (q_1, .inr (5, [.int 0, .int 0, .ref r_2, .ref r_3, .ref r_4, .ref r_5, .ref r_6, .ref r_7])), (r_2, .inl (g 0, 72, .inl (fun _ => 0))), (r_3, .inl (g 0, 6, .inl (fun _ => 0))), (r_4, .inl (g 0, 16, .inl (fun _ => 0))), (r_5, .inl (g 0, 16, .inl (fun _ => 0))), (r_6, .inl (g 0, 5, .inl (fun _ => 0))), (r_7, .inl (g 0, 10, .inl (fun _ => 0)))] := hD
  refine lv_aload_n hx hb dX1_init_20 rfl (lv_at hl 0 rfl) ?_
  refine lv_iconst (v := (-1)) hx hb dX1_init_21 (by decide +kernel) ?_
  refine va_put (D := D) (ci := 1) (v := .int (-1)) (ty := tyX1 5) (C := RX1) (T := TX1) (N := 9) hx hb hts iX1 tyX1 tyX1_ok nmX1 hown K.1 hP hD hS 0 rfl rfl 5 (by decide) (hts (.fieldLink RX1 22 "DarkMine$Foresight" "shadeWorth" "I") (by decide +kernel)) (fun _ h9 => h9) rfl (by decide +kernel) rfl rfl (Nat.le_of_ble_eq_true rfl) dX1_init_22 (fun H locs hP hD hS => ?_)
  have hP : va_P D vwCl [(h0, .inr (1, [.null, .ref q_1, .int 0, .int 0, .int (-1), .int (-1), .int 0, .int 0, .int 0])), (q_1, .inr (5, [.int 0, .int 0, .ref r_2, .ref r_3, .ref r_4, .ref r_5, .ref r_6, .ref r_7])), (r_2, .inl (g 0, 72, .inl (fun _ => 0))), (r_3, .inl (g 0, 6, .inl (fun _ => 0))), (r_4, .inl (g 0, 16, .inl (fun _ => 0))), (r_5, .inl (g 0, 16, .inl (fun _ => 0))), (r_6, .inl (g 0, 5, .inl (fun _ => 0))), (r_7, .inl (g 0, 10, .inl (fun _ => 0)))] H := hP
  have hD : va_D A [(h0, .inr (1, [.null, .ref q_1, .int 0, .int 0, .int (-1), .int (-1), .int 0, .int 0, .int 0])), (q_1, .inr (5, [.int 0, .int 0, .ref r_2, .ref r_3, .ref r_4, .ref r_5, .ref r_6, .ref r_7])), (r_2, .inl (g 0, 72, .inl (fun _ => 0))), (r_3, .inl (g 0, 6, .inl (fun _ => 0))), (r_4, .inl (g 0, 16, .inl (fun _ => 0))), (r_5, .inl (g 0, 16, .inl (fun _ => 0))), (r_6, .inl (g 0, 5, .inl (fun _ => 0))), (r_7, .inl (g 0, 10, .inl (fun _ => 0)))] := hD
  refine lv_aload_n hx hb dX1_init_25 rfl (lv_at hl 0 rfl) ?_
  refine lv_iconst (v := (-1)) hx hb dX1_init_26 (by decide +kernel) ?_
  refine va_put (D := D) (ci := 1) (v := .int (-1)) (ty := tyX1 6) (C := RX1) (T := TX1) (N := 9) hx hb hts iX1 tyX1 tyX1_ok nmX1 hown K.1 hP hD hS 0 rfl rfl 6 (by decide) (hts (.fieldLink RX1 25 "DarkMine$Foresight" "changeRow" "I") (by decide +kernel)) (fun _ h9 => h9) rfl (by decide +kernel) rfl rfl (Nat.le_of_ble_eq_true rfl) dX1_init_27 (fun H locs hP hD hS => ?_)
  have hP : va_P D vwCl [(h0, .inr (1, [.null, .ref q_1, .int 0, .int 0, .int (-1), .int (-1), .int (-1), .int 0, .int 0])), (q_1, .inr (5, [.int 0, .int 0, .ref r_2, .ref r_3, .ref r_4, .ref r_5, .ref r_6, .ref r_7])), (r_2, .inl (g 0, 72, .inl (fun _ => 0))), (r_3, .inl (g 0, 6, .inl (fun _ => 0))), (r_4, .inl (g 0, 16, .inl (fun _ => 0))), (r_5, .inl (g 0, 16, .inl (fun _ => 0))), (r_6, .inl (g 0, 5, .inl (fun _ => 0))), (r_7, .inl (g 0, 10, .inl (fun _ => 0)))] H := hP
  have hD : va_D A [(h0, .inr (1, [.null, .ref q_1, .int 0, .int 0, .int (-1), .int (-1), .int (-1), .int 0, .int 0])), (q_1, .inr (5, [.int 0, .int 0, .ref r_2, .ref r_3, .ref r_4, .ref r_5, .ref r_6, .ref r_7])), (r_2, .inl (g 0, 72, .inl (fun _ => 0))), (r_3, .inl (g 0, 6, .inl (fun _ => 0))), (r_4, .inl (g 0, 16, .inl (fun _ => 0))), (r_5, .inl (g 0, 16, .inl (fun _ => 0))), (r_6, .inl (g 0, 5, .inl (fun _ => 0))), (r_7, .inl (g 0, 10, .inl (fun _ => 0)))] := hD
  refine lv_aload_n hx hb dX1_init_30 rfl (lv_at hl 0 rfl) ?_
  refine lv_iconst (v := (-1)) hx hb dX1_init_31 (by decide +kernel) ?_
  refine va_put (D := D) (ci := 1) (v := .int (-1)) (ty := tyX1 7) (C := RX1) (T := TX1) (N := 9) hx hb hts iX1 tyX1 tyX1_ok nmX1 hown K.1 hP hD hS 0 rfl rfl 7 (by decide) (hts (.fieldLink RX1 28 "DarkMine$Foresight" "changeOther" "I") (by decide +kernel)) (fun _ h9 => h9) rfl (by decide +kernel) rfl rfl (Nat.le_of_ble_eq_true rfl) dX1_init_32 (fun H locs hP hD hS => ?_)
  have hP : va_P D vwCl [(h0, .inr (1, [.null, .ref q_1, .int 0, .int 0, .int (-1), .int (-1), .int (-1), .int (-1), .int 0])), (q_1, .inr (5, [.int 0, .int 0, .ref r_2, .ref r_3, .ref r_4, .ref r_5, .ref r_6, .ref r_7])), (r_2, .inl (g 0, 72, .inl (fun _ => 0))), (r_3, .inl (g 0, 6, .inl (fun _ => 0))), (r_4, .inl (g 0, 16, .inl (fun _ => 0))), (r_5, .inl (g 0, 16, .inl (fun _ => 0))), (r_6, .inl (g 0, 5, .inl (fun _ => 0))), (r_7, .inl (g 0, 10, .inl (fun _ => 0)))] H := hP
  have hD : va_D A [(h0, .inr (1, [.null, .ref q_1, .int 0, .int 0, .int (-1), .int (-1), .int (-1), .int (-1), .int 0])), (q_1, .inr (5, [.int 0, .int 0, .ref r_2, .ref r_3, .ref r_4, .ref r_5, .ref r_6, .ref r_7])), (r_2, .inl (g 0, 72, .inl (fun _ => 0))), (r_3, .inl (g 0, 6, .inl (fun _ => 0))), (r_4, .inl (g 0, 16, .inl (fun _ => 0))), (r_5, .inl (g 0, 16, .inl (fun _ => 0))), (r_6, .inl (g 0, 5, .inl (fun _ => 0))), (r_7, .inl (g 0, 10, .inl (fun _ => 0)))] := hD
  refine lv_aload_n hx hb dX1_init_35 rfl (lv_at hl 0 rfl) ?_
  refine lv_iconst (v := (-1)) hx hb dX1_init_36 (by decide +kernel) ?_
  refine va_put (D := D) (ci := 1) (v := .int (-1)) (ty := tyX1 8) (C := RX1) (T := TX1) (N := 9) hx hb hts iX1 tyX1 tyX1_ok nmX1 hown K.1 hP hD hS 0 rfl rfl 8 (by decide) (hts (.fieldLink RX1 31 "DarkMine$Foresight" "changeGrades" "I") (by decide +kernel)) (fun _ h9 => h9) rfl (by decide +kernel) rfl rfl (Nat.le_of_ble_eq_true rfl) dX1_init_37 (fun H locs hP hD hS => ?_)
  have hP : va_P D vwCl [(h0, .inr (1, [.null, .ref q_1, .int 0, .int 0, .int (-1), .int (-1), .int (-1), .int (-1), .int (-1)])), (q_1, .inr (5, [.int 0, .int 0, .ref r_2, .ref r_3, .ref r_4, .ref r_5, .ref r_6, .ref r_7])), (r_2, .inl (g 0, 72, .inl (fun _ => 0))), (r_3, .inl (g 0, 6, .inl (fun _ => 0))), (r_4, .inl (g 0, 16, .inl (fun _ => 0))), (r_5, .inl (g 0, 16, .inl (fun _ => 0))), (r_6, .inl (g 0, 5, .inl (fun _ => 0))), (r_7, .inl (g 0, 10, .inl (fun _ => 0)))] H := hP
  have hD : va_D A [(h0, .inr (1, [.null, .ref q_1, .int 0, .int 0, .int (-1), .int (-1), .int (-1), .int (-1), .int (-1)])), (q_1, .inr (5, [.int 0, .int 0, .ref r_2, .ref r_3, .ref r_4, .ref r_5, .ref r_6, .ref r_7])), (r_2, .inl (g 0, 72, .inl (fun _ => 0))), (r_3, .inl (g 0, 6, .inl (fun _ => 0))), (r_4, .inl (g 0, 16, .inl (fun _ => 0))), (r_5, .inl (g 0, 16, .inl (fun _ => 0))), (r_6, .inl (g 0, 5, .inl (fun _ => 0))), (r_7, .inl (g 0, 10, .inl (fun _ => 0)))] := hD
  refine lv_aload_n hx hb dX1_init_40 rfl (lv_at hl 0 rfl) ?_
  refine lv_aload_n hx hb dX1_init_41 rfl (lv_at hl 1 rfl) ?_
  refine va_putF (D := D) (ci := 1) (v := .ref w0) (ty := tyX1 0) (C := RX1) (T := TX1) (N := 9) hx hb hts iX1 tyX1 tyX1_ok nmX1 hown K.1 hP hD hS 0 rfl rfl 0 (by decide) (hts (.fieldLink RX1 34 "DarkMine$Foresight" "works" "LDarkMine$Works;") (by decide +kernel)) (fun _ h9 => h9) rfl hin rfl (by decide +kernel) rfl rfl (Nat.le_of_ble_eq_true rfl) dX1_init_42 (fun H locs hP hD hS => ?_)
  have hP : va_P D vwCl [(h0, .inr (1, [.ref w0, .ref q_1, .int 0, .int 0, .int (-1), .int (-1), .int (-1), .int (-1), .int (-1)])), (q_1, .inr (5, [.int 0, .int 0, .ref r_2, .ref r_3, .ref r_4, .ref r_5, .ref r_6, .ref r_7])), (r_2, .inl (g 0, 72, .inl (fun _ => 0))), (r_3, .inl (g 0, 6, .inl (fun _ => 0))), (r_4, .inl (g 0, 16, .inl (fun _ => 0))), (r_5, .inl (g 0, 16, .inl (fun _ => 0))), (r_6, .inl (g 0, 5, .inl (fun _ => 0))), (r_7, .inl (g 0, 10, .inl (fun _ => 0)))] H := hP
  have hD : va_D A [(h0, .inr (1, [.ref w0, .ref q_1, .int 0, .int 0, .int (-1), .int (-1), .int (-1), .int (-1), .int (-1)])), (q_1, .inr (5, [.int 0, .int 0, .ref r_2, .ref r_3, .ref r_4, .ref r_5, .ref r_6, .ref r_7])), (r_2, .inl (g 0, 72, .inl (fun _ => 0))), (r_3, .inl (g 0, 6, .inl (fun _ => 0))), (r_4, .inl (g 0, 16, .inl (fun _ => 0))), (r_5, .inl (g 0, 16, .inl (fun _ => 0))), (r_6, .inl (g 0, 5, .inl (fun _ => 0))), (r_7, .inl (g 0, 10, .inl (fun _ => 0)))] := hD
  refine W.widen (k := 7) (n := 133) (Nat.le_of_ble_eq_true rfl) (Nat.le_of_ble_eq_true rfl) ?_
  exact dk_vret hx hb hr hlocks hP hD hS q_1 [0] rfl (by decide) trivial dX1_init_45
