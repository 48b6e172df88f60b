/-! 06.pit.lean.txt -/
def wsX5_copy : List Cond := .code yX5_copy cX5_copy 2 none :: ([.fieldLink RX5 30 "DarkMine$Pit" "shift" "I", .fieldLink RX5 34 "DarkMine$Pit" "purse" "I", .fieldLink RX5 9 "DarkMine$Pit" "cells" "[I", .methodLink RX5 54 arraycopyName, .native arraycopyName, .static arraycopyName, .initialized "java/lang/System", .fieldLink RX5 15 "DarkMine$Pit" "hurts" "[I", .fieldLink RX5 18 "DarkMine$Pit" "planMiners" "[I", .fieldLink RX5 21 "DarkMine$Pit" "planPlaces" "[I", .fieldLink RX5 24 "DarkMine$Pit" "sold" "[I", .fieldLink RX5 27 "DarkMine$Pit" "tubCounts" "[I"] ++ wsX50)
def wsX5_isSolid : List Cond := .code yX5_isSolid cX5_isSolid 2 (some .boolean) :: ([.fieldLink RX5 9 "DarkMine$Pit" "cells" "[I"] ++ wsX50)
def wsX5_gradeAt : List Cond := .code yX5_gradeAt cX5_gradeAt 2 (some .int) :: ([.fieldLink RX5 9 "DarkMine$Pit" "cells" "[I", .methodLink RX5 69 yX5_isSolid, .instanceMethod yX5_isSolid, .selects RX5 yX5_isSolid yX5_isSolid, .initialized RX5, .code yX5_isSolid cX5_isSolid 2 (some .boolean)] ++ wsX50)
def wsX5_isOpen : List Cond := .code yX5_isOpen cX5_isOpen 2 (some .boolean) :: ([.fieldLink RX5 9 "DarkMine$Pit" "cells" "[I"] ++ wsX50)
def wsX5_openBeside : List Cond := .code yX5_openBeside cX5_openBeside 7 (some .int) :: ([.methodLink RX5 76 yX5_isOpen, .instanceMethod yX5_isOpen, .selects RX5 yX5_isOpen yX5_isOpen, .initialized RX5, .code yX5_isOpen cX5_isOpen 2 (some .boolean), .fieldLink RX5 9 "DarkMine$Pit" "cells" "[I"] ++ wsX50)
def wsX5_canBeDug : List Cond := .code yX5_canBeDug cX5_canBeDug 2 (some .boolean) :: ([.methodLink RX5 69 yX5_isSolid, .instanceMethod yX5_isSolid, .selects RX5 yX5_isSolid yX5_isSolid, .initialized RX5, .code yX5_isSolid cX5_isSolid 2 (some .boolean), .fieldLink RX5 9 "DarkMine$Pit" "cells" "[I", .methodLink RX5 79 yX5_openBeside, .instanceMethod yX5_openBeside, .selects RX5 yX5_openBeside yX5_openBeside, .code yX5_openBeside cX5_openBeside 7 (some .int), .methodLink RX5 76 yX5_isOpen, .instanceMethod yX5_isOpen, .selects RX5 yX5_isOpen yX5_isOpen, .code yX5_isOpen cX5_isOpen 2 (some .boolean)] ++ wsX50)
def wsX5_addTub : List Cond := .code yX5_addTub cX5_addTub 2 none :: ([.fieldLink RX5 27 "DarkMine$Pit" "tubCounts" "[I", .methodLink RX5 83 Lib.Math.min.name, .static Lib.Math.min.name, .initialized "java/lang/Math", .code Lib.Math.min.name Lib.Math.min.code 2 (some .int)] ++ wsX50)
def wsX5_tubGrades : List Cond := .code yX5_tubGrades cX5_tubGrades 3 (some .int) :: ([.fieldLink RX5 27 "DarkMine$Pit" "tubCounts" "[I"] ++ wsX50)
def wsX5_wholeWorth : List Cond := .code yX5_wholeWorth cX5_wholeWorth 3 (some .int) :: ([.fieldLink RX5 9 "DarkMine$Pit" "cells" "[I", .methodLink RX5 89 yX5_tubGrades, .instanceMethod yX5_tubGrades, .selects RX5 yX5_tubGrades yX5_tubGrades, .initialized RX5, .code yX5_tubGrades cX5_tubGrades 3 (some .int), .fieldLink RX5 27 "DarkMine$Pit" "tubCounts" "[I", .methodLink RX5 69 yX5_isSolid, .instanceMethod yX5_isSolid, .selects RX5 yX5_isSolid yX5_isSolid, .code yX5_isSolid cX5_isSolid 2 (some .boolean)] ++ wsX50)
def wsX5_changeRows : List Cond := .code yX5_changeRows cX5_changeRows 5 none :: ([.fieldLink RX5 18 "DarkMine$Pit" "planMiners" "[I", .fieldLink RX5 21 "DarkMine$Pit" "planPlaces" "[I"] ++ wsX50)
def wsX5_begin_r1 : List Cond := [Cond.fieldLink RX5 30 "DarkMine$Pit" "shift" "I", Cond.fieldLink RX5 34 "DarkMine$Pit" "purse" "I", Cond.fieldLink RX5 9 "DarkMine$Pit" "cells" "[I", Cond.fieldLink RX5 43 "DarkMine$Ground" "rows" "I", Cond.fieldLink RX5 48 "DarkMine$Ground" "grades" "[I", Cond.fieldLink RX5 51 "DarkMine$Ground" "columns" "I", Cond.methodLink RX5 54 arraycopyName, Cond.native arraycopyName, Cond.static arraycopyName, Cond.initialized "java/lang/System", Cond.fieldLink RX5 64 "DarkMine$Ground" "shaftPlace" "I", Cond.fieldLink RX5 15 "DarkMine$Pit" "hurts" "[I", Cond.fieldLink RX5 67 "DarkMine$Ground" "planMiners" "[I", Cond.fieldLink RX5 18 "DarkMine$Pit" "planMiners" "[I", Cond.fieldLink RX5 68 "DarkMine$Ground" "planPlaces" "[I", Cond.fieldLink RX5 21 "DarkMine$Pit" "planPlaces" "[I", Cond.fieldLink RX5 24 "DarkMine$Pit" "sold" "[I", Cond.fieldLink RX5 27 "DarkMine$Pit" "tubCounts" "[I", Cond.methodLink RX5 37 yJ7_fill_53178, Cond.static yJ7_fill_53178, Cond.initialized RJ7, Cond.code yJ7_fill_53178 cJ7_fill_53178 4 none, Cond.methodLink RX5 60 yX2_hasSeam, Cond.instanceMethod yX2_hasSeam]
def wsX5_begin_r2 : List Cond := [Cond.selects RX2 yX2_hasSeam yX2_hasSeam, Cond.initialized RX2, Cond.code yX2_hasSeam cX2_hasSeam 1 (some .boolean), Cond.fieldLink RX2 49 "DarkMine$Ground" "columns" "I"]
def wsX5_begin : List Cond := .code yX5_begin cX5_begin 4 none :: ((wsX5_begin_r1 ++ wsX5_begin_r2) ++ wsX50 ++ wsX20)
def wsX5_tubsFrom : List Cond := .code yX5_tubsFrom cX5_tubsFrom 4 (some .int) :: ([.fieldLink RX5 27 "DarkMine$Pit" "tubCounts" "[I"] ++ wsX50)
def wsX5_giveTubs : List Cond := .code yX5_giveTubs cX5_giveTubs 6 none :: ([.fieldLink RX5 27 "DarkMine$Pit" "tubCounts" "[I", .methodLink RX5 83 Lib.Math.min.name, .static Lib.Math.min.name, .initialized "java/lang/Math", .code Lib.Math.min.name Lib.Math.min.code 2 (some .int)] ++ wsX50)
set_option maxRecDepth 20000 in
theorem ggX5_begin_J7_fill_53178 : GoodIn wsX5_begin wsJ7_fill_53178 := goodIn_r _ [22] (by decide +kernel) (by decide +kernel)
set_option maxRecDepth 20000 in
theorem gX5_begin_J7_fill_53178 : GoodIn wsX5_begin (va_wsS RX5 37 yJ7_fill_53178 wsJ7_fill_53178) := goodIn_app (goodIn_of _ (by decide +kernel)) ggX5_begin_J7_fill_53178
set_option maxRecDepth 20000 in
theorem ggX5_begin_X2_hasSeam : GoodIn wsX5_begin wsX2_hasSeam := goodIn_r _ [27, 28, 37, 38, 39, 40, 41, 42, 43, 44, 45, 46, 47, 48, 49, 50, 51, 52, 53, 54, 55] (by decide +kernel) (by decide +kernel)
set_option maxRecDepth 20000 in
theorem gX5_begin_X2_hasSeam : GoodIn wsX5_begin (wsV RX5 60 RX2 yX2_hasSeam wsX2_hasSeam) := goodIn_app (goodIn_of _ (by decide +kernel)) ggX5_begin_X2_hasSeam
theorem dX5_begin_0 : decode cX5_begin 0 = .ok (.aload_n 0, 1) := by decide +kernel
theorem dX5_begin_1 : decode cX5_begin 1 = .ok (.iconst 0, 1) := by decide +kernel
theorem dX5_begin_2 : decode cX5_begin 2 = .ok (.putfield 30, 3) := by decide +kernel
theorem dX5_begin_5 : decode cX5_begin 5 = .ok (.aload_n 0, 1) := by decide +kernel
theorem dX5_begin_6 : decode cX5_begin 6 = .ok (.iconst 0, 1) := by decide +kernel
theorem dX5_begin_7 : decode cX5_begin 7 = .ok (.putfield 34, 3) := by decide +kernel
theorem dX5_begin_10 : decode cX5_begin 10 = .ok (.aload_n 0, 1) := by decide +kernel
theorem dX5_begin_11 : decode cX5_begin 11 = .ok (.getfield 9, 3) := by decide +kernel
theorem dX5_begin_14 : decode cX5_begin 14 = .ok (.bipush 100, 2) := by decide +kernel
theorem dX5_begin_16 : decode cX5_begin 16 = .ok (.invokestatic 37, 3) := by decide +kernel
theorem dX5_begin_19 : decode cX5_begin 19 = .ok (.iconst 0, 1) := by decide +kernel
theorem dX5_begin_20 : decode cX5_begin 20 = .ok (.istore_n 2, 1) := by decide +kernel
theorem dX5_begin_21 : decode cX5_begin 21 = .ok (.iload_n 2, 1) := by decide +kernel
theorem dX5_begin_22 : decode cX5_begin 22 = .ok (.aload_n 1, 1) := by decide +kernel
theorem dX5_begin_23 : decode cX5_begin 23 = .ok (.getfield 43, 3) := by decide +kernel
theorem dX5_begin_26 : decode cX5_begin 26 = .ok (.if_icmp .ge 34, 3) := by decide +kernel
theorem dX5_begin_29 : decode cX5_begin 29 = .ok (.bipush 8, 2) := by decide +kernel
theorem dX5_begin_31 : decode cX5_begin 31 = .ok (.iload_n 2, 1) := by decide +kernel
theorem dX5_begin_32 : decode cX5_begin 32 = .ok (.imul, 1) := by decide +kernel
theorem dX5_begin_33 : decode cX5_begin 33 = .ok (.bipush 8, 2) := by decide +kernel
theorem dX5_begin_35 : decode cX5_begin 35 = .ok (.iadd, 1) := by decide +kernel
theorem dX5_begin_36 : decode cX5_begin 36 = .ok (.istore_n 3, 1) := by decide +kernel
theorem dX5_begin_37 : decode cX5_begin 37 = .ok (.aload_n 1, 1) := by decide +kernel
theorem dX5_begin_38 : decode cX5_begin 38 = .ok (.getfield 48, 3) := by decide +kernel
theorem dX5_begin_41 : decode cX5_begin 41 = .ok (.iload_n 3, 1) := by decide +kernel
theorem dX5_begin_42 : decode cX5_begin 42 = .ok (.aload_n 0, 1) := by decide +kernel
theorem dX5_begin_43 : decode cX5_begin 43 = .ok (.getfield 9, 3) := by decide +kernel
theorem dX5_begin_46 : decode cX5_begin 46 = .ok (.iload_n 3, 1) := by decide +kernel
theorem dX5_begin_47 : decode cX5_begin 47 = .ok (.aload_n 1, 1) := by decide +kernel
theorem dX5_begin_48 : decode cX5_begin 48 = .ok (.getfield 51, 3) := by decide +kernel
theorem dX5_begin_51 : decode cX5_begin 51 = .ok (.invokestatic 54, 3) := by decide +kernel
theorem dX5_begin_54 : decode cX5_begin 54 = .ok (.iinc 2 1, 3) := by decide +kernel
theorem dX5_begin_57 : decode cX5_begin 57 = .ok (.goto (-36), 3) := by decide +kernel
theorem dX5_begin_60 : decode cX5_begin 60 = .ok (.aload_n 1, 1) := by decide +kernel
theorem dX5_begin_61 : decode cX5_begin 61 = .ok (.invokevirtual 60, 3) := by decide +kernel
theorem dX5_begin_64 : decode cX5_begin 64 = .ok (.ifCond .eq 15, 3) := by decide +kernel
theorem dX5_begin_67 : decode cX5_begin 67 = .ok (.aload_n 0, 1) := by decide +kernel
theorem dX5_begin_68 : decode cX5_begin 68 = .ok (.getfield 9, 3) := by decide +kernel
theorem dX5_begin_71 : decode cX5_begin 71 = .ok (.aload_n 1, 1) := by decide +kernel
theorem dX5_begin_72 : decode cX5_begin 72 = .ok (.getfield 64, 3) := by decide +kernel
theorem dX5_begin_75 : decode cX5_begin 75 = .ok (.sipush 255, 3) := by decide +kernel
theorem dX5_begin_78 : decode cX5_begin 78 = .ok (.iastore, 1) := by decide +kernel
theorem dX5_begin_79 : decode cX5_begin 79 = .ok (.aload_n 0, 1) := by decide +kernel
theorem dX5_begin_80 : decode cX5_begin 80 = .ok (.getfield 15, 3) := by decide +kernel
theorem dX5_begin_83 : decode cX5_begin 83 = .ok (.iconst 0, 1) := by decide +kernel
theorem dX5_begin_84 : decode cX5_begin 84 = .ok (.invokestatic 37, 3) := by decide +kernel
theorem dX5_begin_87 : decode cX5_begin 87 = .ok (.aload_n 1, 1) := by decide +kernel
theorem dX5_begin_88 : decode cX5_begin 88 = .ok (.getfield 67, 3) := by decide +kernel
theorem dX5_begin_91 : decode cX5_begin 91 = .ok (.iconst 0, 1) := by decide +kernel
theorem dX5_begin_92 : decode cX5_begin 92 = .ok (.aload_n 0, 1) := by decide +kernel
theorem dX5_begin_93 : decode cX5_begin 93 = .ok (.getfield 18, 3) := by decide +kernel
theorem dX5_begin_96 : decode cX5_begin 96 = .ok (.iconst 0, 1) := by decide +kernel
theorem dX5_begin_97 : decode cX5_begin 97 = .ok (.bipush 16, 2) := by decide +kernel
theorem dX5_begin_99 : decode cX5_begin 99 = .ok (.invokestatic 54, 3) := by decide +kernel
theorem dX5_begin_102 : decode cX5_begin 102 = .ok (.aload_n 1, 1) := by decide +kernel
theorem dX5_begin_103 : decode cX5_begin 103 = .ok (.getfield 68, 3) := by decide +kernel
theorem dX5_begin_106 : decode cX5_begin 106 = .ok (.iconst 0, 1) := by decide +kernel
theorem dX5_begin_107 : decode cX5_begin 107 = .ok (.aload_n 0, 1) := by decide +kernel
theorem dX5_begin_108 : decode cX5_begin 108 = .ok (.getfield 21, 3) := by decide +kernel
theorem dX5_begin_111 : decode cX5_begin 111 = .ok (.iconst 0, 1) := by decide +kernel
theorem dX5_begin_112 : decode cX5_begin 112 = .ok (.bipush 16, 2) := by decide +kernel
theorem dX5_begin_114 : decode cX5_begin 114 = .ok (.invokestatic 54, 3) := by decide +kernel
theorem dX5_begin_117 : decode cX5_begin 117 = .ok (.aload_n 0, 1) := by decide +kernel
theorem dX5_begin_118 : decode cX5_begin 118 = .ok (.getfield 24, 3) := by decide +kernel
theorem dX5_begin_121 : decode cX5_begin 121 = .ok (.iconst 0, 1) := by decide +kernel
theorem dX5_begin_122 : decode cX5_begin 122 = .ok (.invokestatic 37, 3) := by decide +kernel
theorem dX5_begin_125 : decode cX5_begin 125 = .ok (.aload_n 0, 1) := by decide +kernel
theorem dX5_begin_126 : decode cX5_begin 126 = .ok (.getfield 27, 3) := by decide +kernel
theorem dX5_begin_129 : decode cX5_begin 129 = .ok (.iconst 0, 1) := by decide +kernel
theorem dX5_begin_130 : decode cX5_begin 130 = .ok (.invokestatic 37, 3) := by decide +kernel
theorem dX5_begin_133 : decode cX5_begin 133 = .ok (.return_, 1) := by decide +kernel
theorem dX5_copy_0 : decode cX5_copy 0 = .ok (.aload_n 0, 1) := by decide +kernel
theorem dX5_copy_1 : decode cX5_copy 1 = .ok (.aload_n 1, 1) := by decide +kernel
theorem dX5_copy_2 : decode cX5_copy 2 = .ok (.getfield 30, 3) := by decide +kernel
theorem dX5_copy_5 : decode cX5_copy 5 = .ok (.putfield 30, 3) := by decide +kernel
theorem dX5_copy_8 : decode cX5_copy 8 = .ok (.aload_n 0, 1) := by decide +kernel
theorem dX5_copy_9 : decode cX5_copy 9 = .ok (.aload_n 1, 1) := by decide +kernel
theorem dX5_copy_10 : decode cX5_copy 10 = .ok (.getfield 34, 3) := by decide +kernel
theorem dX5_copy_13 : decode cX5_copy 13 = .ok (.putfield 34, 3) := by decide +kernel
theorem dX5_copy_16 : decode cX5_copy 16 = .ok (.aload_n 1, 1) := by decide +kernel
theorem dX5_copy_17 : decode cX5_copy 17 = .ok (.getfield 9, 3) := by decide +kernel
theorem dX5_copy_20 : decode cX5_copy 20 = .ok (.iconst 0, 1) := by decide +kernel
theorem dX5_copy_21 : decode cX5_copy 21 = .ok (.aload_n 0, 1) := by decide +kernel
theorem dX5_copy_22 : decode cX5_copy 22 = .ok (.getfield 9, 3) := by decide +kernel
theorem dX5_copy_25 : decode cX5_copy 25 = .ok (.iconst 0, 1) := by decide +kernel
theorem dX5_copy_26 : decode cX5_copy 26 = .ok (.bipush 72, 2) := by decide +kernel
theorem dX5_copy_28 : decode cX5_copy 28 = .ok (.invokestatic 54, 3) := by decide +kernel
theorem dX5_copy_31 : decode cX5_copy 31 = .ok (.aload_n 1, 1) := by decide +kernel
theorem dX5_copy_32 : decode cX5_copy 32 = .ok (.getfield 15, 3) := by decide +kernel
theorem dX5_copy_35 : decode cX5_copy 35 = .ok (.iconst 0, 1) := by decide +kernel
theorem dX5_copy_36 : decode cX5_copy 36 = .ok (.aload_n 0, 1) := by decide +kernel
theorem dX5_copy_37 : decode cX5_copy 37 = .ok (.getfield 15, 3) := by decide +kernel
theorem dX5_copy_40 : decode cX5_copy 40 = .ok (.iconst 0, 1) := by decide +kernel
theorem dX5_copy_41 : decode cX5_copy 41 = .ok (.bipush 6, 2) := by decide +kernel
theorem dX5_copy_43 : decode cX5_copy 43 = .ok (.invokestatic 54, 3) := by decide +kernel
theorem dX5_copy_46 : decode cX5_copy 46 = .ok (.aload_n 1, 1) := by decide +kernel
theorem dX5_copy_47 : decode cX5_copy 47 = .ok (.getfield 18, 3) := by decide +kernel
theorem dX5_copy_50 : decode cX5_copy 50 = .ok (.iconst 0, 1) := by decide +kernel
theorem dX5_copy_51 : decode cX5_copy 51 = .ok (.aload_n 0, 1) := by decide +kernel
theorem dX5_copy_52 : decode cX5_copy 52 = .ok (.getfield 18, 3) := by decide +kernel
theorem dX5_copy_55 : decode cX5_copy 55 = .ok (.iconst 0, 1) := by decide +kernel
theorem dX5_copy_56 : decode cX5_copy 56 = .ok (.bipush 16, 2) := by decide +kernel
theorem dX5_copy_58 : decode cX5_copy 58 = .ok (.invokestatic 54, 3) := by decide +kernel
theorem dX5_copy_61 : decode cX5_copy 61 = .ok (.aload_n 1, 1) := by decide +kernel
theorem dX5_copy_62 : decode cX5_copy 62 = .ok (.getfield 21, 3) := by decide +kernel
theorem dX5_copy_65 : decode cX5_copy 65 = .ok (.iconst 0, 1) := by decide +kernel
theorem dX5_copy_66 : decode cX5_copy 66 = .ok (.aload_n 0, 1) := by decide +kernel
theorem dX5_copy_67 : decode cX5_copy 67 = .ok (.getfield 21, 3) := by decide +kernel
theorem dX5_copy_70 : decode cX5_copy 70 = .ok (.iconst 0, 1) := by decide +kernel
theorem dX5_copy_71 : decode cX5_copy 71 = .ok (.bipush 16, 2) := by decide +kernel
theorem dX5_copy_73 : decode cX5_copy 73 = .ok (.invokestatic 54, 3) := by decide +kernel
theorem dX5_copy_76 : decode cX5_copy 76 = .ok (.aload_n 1, 1) := by decide +kernel
theorem dX5_copy_77 : decode cX5_copy 77 = .ok (.getfield 24, 3) := by decide +kernel
theorem dX5_copy_80 : decode cX5_copy 80 = .ok (.iconst 0, 1) := by decide +kernel
theorem dX5_copy_81 : decode cX5_copy 81 = .ok (.aload_n 0, 1) := by decide +kernel
theorem dX5_copy_82 : decode cX5_copy 82 = .ok (.getfield 24, 3) := by decide +kernel
theorem dX5_copy_85 : decode cX5_copy 85 = .ok (.iconst 0, 1) := by decide +kernel
theorem dX5_copy_86 : decode cX5_copy 86 = .ok (.iconst 5, 1) := by decide +kernel
theorem dX5_copy_87 : decode cX5_copy 87 = .ok (.invokestatic 54, 3) := by decide +kernel
theorem dX5_copy_90 : decode cX5_copy 90 = .ok (.aload_n 1, 1) := by decide +kernel
theorem dX5_copy_91 : decode cX5_copy 91 = .ok (.getfield 27, 3) := by decide +kernel
theorem dX5_copy_94 : decode cX5_copy 94 = .ok (.iconst 0, 1) := by decide +kernel
theorem dX5_copy_95 : decode cX5_copy 95 = .ok (.aload_n 0, 1) := by decide +kernel
theorem dX5_copy_96 : decode cX5_copy 96 = .ok (.getfield 27, 3) := by decide +kernel
theorem dX5_copy_99 : decode cX5_copy 99 = .ok (.iconst 0, 1) := by decide +kernel
theorem dX5_copy_100 : decode cX5_copy 100 = .ok (.bipush 10, 2) := by decide +kernel
theorem dX5_copy_102 : decode cX5_copy 102 = .ok (.invokestatic 54, 3) := by decide +kernel
theorem dX5_copy_105 : decode cX5_copy 105 = .ok (.return_, 1) := by decide +kernel
theorem dX5_isOpen_0 : decode cX5_isOpen 0 = .ok (.aload_n 0, 1) := by decide +kernel
theorem dX5_isOpen_1 : decode cX5_isOpen 1 = .ok (.getfield 9, 3) := by decide +kernel
theorem dX5_isOpen_4 : decode cX5_isOpen 4 = .ok (.iload_n 1, 1) := by decide +kernel
theorem dX5_isOpen_5 : decode cX5_isOpen 5 = .ok (.iaload, 1) := by decide +kernel
theorem dX5_isOpen_6 : decode cX5_isOpen 6 = .ok (.sipush 254, 3) := by decide +kernel
theorem dX5_isOpen_9 : decode cX5_isOpen 9 = .ok (.if_icmp .lt 7, 3) := by decide +kernel
theorem dX5_isOpen_12 : decode cX5_isOpen 12 = .ok (.iconst 1, 1) := by decide +kernel
theorem dX5_isOpen_13 : decode cX5_isOpen 13 = .ok (.goto 4, 3) := by decide +kernel
theorem dX5_isOpen_16 : decode cX5_isOpen 16 = .ok (.iconst 0, 1) := by decide +kernel
theorem dX5_isOpen_17 : decode cX5_isOpen 17 = .ok (.ireturn, 1) := by decide +kernel
theorem dX5_isSolid_0 : decode cX5_isSolid 0 = .ok (.aload_n 0, 1) := by decide +kernel
theorem dX5_isSolid_1 : decode cX5_isSolid 1 = .ok (.getfield 9, 3) := by decide +kernel
theorem dX5_isSolid_4 : decode cX5_isSolid 4 = .ok (.iload_n 1, 1) := by decide +kernel
theorem dX5_isSolid_5 : decode cX5_isSolid 5 = .ok (.iaload, 1) := by decide +kernel
theorem dX5_isSolid_6 : decode cX5_isSolid 6 = .ok (.bipush 9, 2) := by decide +kernel
theorem dX5_isSolid_8 : decode cX5_isSolid 8 = .ok (.if_icmp .gt 7, 3) := by decide +kernel
theorem dX5_isSolid_11 : decode cX5_isSolid 11 = .ok (.iconst 1, 1) := by decide +kernel
theorem dX5_isSolid_12 : decode cX5_isSolid 12 = .ok (.goto 4, 3) := by decide +kernel
theorem dX5_isSolid_15 : decode cX5_isSolid 15 = .ok (.iconst 0, 1) := by decide +kernel
theorem dX5_isSolid_16 : decode cX5_isSolid 16 = .ok (.ireturn, 1) := by decide +kernel
set_option maxRecDepth 20000 in
theorem ggX5_gradeAt_X5_isSolid : GoodIn wsX5_gradeAt wsX5_isSolid := goodIn_r _ [6, 1, 7, 8, 9, 10, 11, 12, 13, 14] (by decide +kernel) (by decide +kernel)
set_option maxRecDepth 20000 in
theorem gX5_gradeAt_X5_isSolid : GoodIn wsX5_gradeAt (wsV RX5 69 RX5 yX5_isSolid wsX5_isSolid) := goodIn_app (goodIn_of _ (by decide +kernel)) ggX5_gradeAt_X5_isSolid
theorem dX5_gradeAt_0 : decode cX5_gradeAt 0 = .ok (.aload_n 0, 1) := by decide +kernel
theorem dX5_gradeAt_1 : decode cX5_gradeAt 1 = .ok (.iload_n 1, 1) := by decide +kernel
theorem dX5_gradeAt_2 : decode cX5_gradeAt 2 = .ok (.invokevirtual 69, 3) := by decide +kernel
theorem dX5_gradeAt_5 : decode cX5_gradeAt 5 = .ok (.ifCond .eq 12, 3) := by decide +kernel
theorem dX5_gradeAt_8 : decode cX5_gradeAt 8 = .ok (.aload_n 0, 1) := by decide +kernel
theorem dX5_gradeAt_9 : decode cX5_gradeAt 9 = .ok (.getfield 9, 3) := by decide +kernel
theorem dX5_gradeAt_12 : decode cX5_gradeAt 12 = .ok (.iload_n 1, 1) := by decide +kernel
theorem dX5_gradeAt_13 : decode cX5_gradeAt 13 = .ok (.iaload, 1) := by decide +kernel
theorem dX5_gradeAt_14 : decode cX5_gradeAt 14 = .ok (.goto 4, 3) := by decide +kernel
theorem dX5_gradeAt_17 : decode cX5_gradeAt 17 = .ok (.iconst (-1), 1) := by decide +kernel
theorem dX5_gradeAt_18 : decode cX5_gradeAt 18 = .ok (.ireturn, 1) := by decide +kernel
set_option maxRecDepth 20000 in
theorem ggX5_openBeside_X5_isOpen : GoodIn wsX5_openBeside wsX5_isOpen := goodIn_r _ [5, 6, 7, 8, 9, 10, 11, 12, 13, 14] (by decide +kernel) (by decide +kernel)
set_option maxRecDepth 20000 in
theorem gX5_openBeside_X5_isOpen : GoodIn wsX5_openBeside (wsV RX5 76 RX5 yX5_isOpen wsX5_isOpen) := goodIn_app (goodIn_of _ (by decide +kernel)) ggX5_openBeside_X5_isOpen
theorem dX5_openBeside_0 : decode cX5_openBeside 0 = .ok (.iconst 0, 1) := by decide +kernel
theorem dX5_openBeside_1 : decode cX5_openBeside 1 = .ok (.istore_n 2, 1) := by decide +kernel
theorem dX5_openBeside_2 : decode cX5_openBeside 2 = .ok (.getstatic 73, 3) := by decide +kernel
theorem dX5_openBeside_5 : decode cX5_openBeside 5 = .ok (.astore_n 3, 1) := by decide +kernel
theorem dX5_openBeside_6 : decode cX5_openBeside 6 = .ok (.aload_n 3, 1) := by decide +kernel
theorem dX5_openBeside_7 : decode cX5_openBeside 7 = .ok (.arraylength, 1) := by decide +kernel
theorem dX5_openBeside_8 : decode cX5_openBeside 8 = .ok (.istore 4, 2) := by decide +kernel
theorem dX5_openBeside_10 : decode cX5_openBeside 10 = .ok (.iconst 0, 1) := by decide +kernel
theorem dX5_openBeside_11 : decode cX5_openBeside 11 = .ok (.istore 5, 2) := by decide +kernel
theorem dX5_openBeside_13 : decode cX5_openBeside 13 = .ok (.iload 5, 2) := by decide +kernel
theorem dX5_openBeside_15 : decode cX5_openBeside 15 = .ok (.iload 4, 2) := by decide +kernel
theorem dX5_openBeside_17 : decode cX5_openBeside 17 = .ok (.if_icmp .ge 29, 3) := by decide +kernel
theorem dX5_openBeside_20 : decode cX5_openBeside 20 = .ok (.aload_n 3, 1) := by decide +kernel
theorem dX5_openBeside_21 : decode cX5_openBeside 21 = .ok (.iload 5, 2) := by decide +kernel
theorem dX5_openBeside_23 : decode cX5_openBeside 23 = .ok (.iaload, 1) := by decide +kernel
theorem dX5_openBeside_24 : decode cX5_openBeside 24 = .ok (.istore 6, 2) := by decide +kernel
theorem dX5_openBeside_26 : decode cX5_openBeside 26 = .ok (.aload_n 0, 1) := by decide +kernel
theorem dX5_openBeside_27 : decode cX5_openBeside 27 = .ok (.iload_n 1, 1) := by decide +kernel
theorem dX5_openBeside_28 : decode cX5_openBeside 28 = .ok (.iload 6, 2) := by decide +kernel
theorem dX5_openBeside_30 : decode cX5_openBeside 30 = .ok (.iadd, 1) := by decide +kernel
theorem dX5_openBeside_31 : decode cX5_openBeside 31 = .ok (.invokevirtual 76, 3) := by decide +kernel
theorem dX5_openBeside_34 : decode cX5_openBeside 34 = .ok (.ifCond .eq 6, 3) := by decide +kernel
theorem dX5_openBeside_37 : decode cX5_openBeside 37 = .ok (.iinc 2 1, 3) := by decide +kernel
theorem dX5_openBeside_40 : decode cX5_openBeside 40 = .ok (.iinc 5 1, 3) := by decide +kernel
theorem dX5_openBeside_43 : decode cX5_openBeside 43 = .ok (.goto (-30), 3) := by decide +kernel
theorem dX5_openBeside_46 : decode cX5_openBeside 46 = .ok (.iload_n 2, 1) := by decide +kernel
theorem dX5_openBeside_47 : decode cX5_openBeside 47 = .ok (.ireturn, 1) := by decide +kernel
set_option maxRecDepth 20000 in
theorem ggX5_canBeDug_X5_isSolid : GoodIn wsX5_canBeDug wsX5_isSolid := goodIn_r _ [5, 6, 15, 16, 17, 18, 19, 20, 21, 22] (by decide +kernel) (by decide +kernel)
set_option maxRecDepth 20000 in
theorem gX5_canBeDug_X5_isSolid : GoodIn wsX5_canBeDug (wsV RX5 69 RX5 yX5_isSolid wsX5_isSolid) := goodIn_app (goodIn_of _ (by decide +kernel)) ggX5_canBeDug_X5_isSolid
set_option maxRecDepth 20000 in
theorem ggX5_canBeDug_X5_openBeside : GoodIn wsX5_canBeDug wsX5_openBeside := goodIn_r _ [10, 11, 12, 13, 4, 14, 6, 15, 16, 17, 18, 19, 20, 21, 22] (by decide +kernel) (by decide +kernel)
set_option maxRecDepth 20000 in
theorem gX5_canBeDug_X5_openBeside : GoodIn wsX5_canBeDug (wsV RX5 79 RX5 yX5_openBeside wsX5_openBeside) := goodIn_app (goodIn_of _ (by decide +kernel)) ggX5_canBeDug_X5_openBeside
theorem dX5_canBeDug_0 : decode cX5_canBeDug 0 = .ok (.aload_n 0, 1) := by decide +kernel
theorem dX5_canBeDug_1 : decode cX5_canBeDug 1 = .ok (.iload_n 1, 1) := by decide +kernel
theorem dX5_canBeDug_2 : decode cX5_canBeDug 2 = .ok (.invokevirtual 69, 3) := by decide +kernel
theorem dX5_canBeDug_5 : decode cX5_canBeDug 5 = .ok (.ifCond .eq 15, 3) := by decide +kernel
theorem dX5_canBeDug_8 : decode cX5_canBeDug 8 = .ok (.aload_n 0, 1) := by decide +kernel
theorem dX5_canBeDug_9 : decode cX5_canBeDug 9 = .ok (.iload_n 1, 1) := by decide +kernel
theorem dX5_canBeDug_10 : decode cX5_canBeDug 10 = .ok (.invokevirtual 79, 3) := by decide +kernel
theorem dX5_canBeDug_13 : decode cX5_canBeDug 13 = .ok (.ifCond .le 7, 3) := by decide +kernel
theorem dX5_canBeDug_16 : decode cX5_canBeDug 16 = .ok (.iconst 1, 1) := by decide +kernel
theorem dX5_canBeDug_17 : decode cX5_canBeDug 17 = .ok (.goto 4, 3) := by decide +kernel
theorem dX5_canBeDug_20 : decode cX5_canBeDug 20 = .ok (.iconst 0, 1) := by decide +kernel
theorem dX5_canBeDug_21 : decode cX5_canBeDug 21 = .ok (.ireturn, 1) := by decide +kernel
theorem dX5_addTub_0 : decode cX5_addTub 0 = .ok (.aload_n 0, 1) := by decide +kernel
theorem dX5_addTub_1 : decode cX5_addTub 1 = .ok (.getfield 27, 3) := by decide +kernel
theorem dX5_addTub_4 : decode cX5_addTub 4 = .ok (.iload_n 1, 1) := by decide +kernel
theorem dX5_addTub_5 : decode cX5_addTub 5 = .ok (.bipush 99, 2) := by decide +kernel
theorem dX5_addTub_7 : decode cX5_addTub 7 = .ok (.aload_n 0, 1) := by decide +kernel
theorem dX5_addTub_8 : decode cX5_addTub 8 = .ok (.getfield 27, 3) := by decide +kernel
theorem dX5_addTub_11 : decode cX5_addTub 11 = .ok (.iload_n 1, 1) := by decide +kernel
theorem dX5_addTub_12 : decode cX5_addTub 12 = .ok (.iaload, 1) := by decide +kernel
theorem dX5_addTub_13 : decode cX5_addTub 13 = .ok (.iconst 1, 1) := by decide +kernel
theorem dX5_addTub_14 : decode cX5_addTub 14 = .ok (.iadd, 1) := by decide +kernel
theorem dX5_addTub_15 : decode cX5_addTub 15 = .ok (.invokestatic 83, 3) := by decide +kernel
theorem dX5_addTub_18 : decode cX5_addTub 18 = .ok (.iastore, 1) := by decide +kernel
theorem dX5_addTub_19 : decode cX5_addTub 19 = .ok (.return_, 1) := by decide +kernel
theorem dX5_tubsFrom_0 : decode cX5_tubsFrom 0 = .ok (.iconst 0, 1) := by decide +kernel
theorem dX5_tubsFrom_1 : decode cX5_tubsFrom 1 = .ok (.istore_n 2, 1) := by decide +kernel
theorem dX5_tubsFrom_2 : decode cX5_tubsFrom 2 = .ok (.iload_n 1, 1) := by decide +kernel
theorem dX5_tubsFrom_3 : decode cX5_tubsFrom 3 = .ok (.istore_n 3, 1) := by decide +kernel
theorem dX5_tubsFrom_4 : decode cX5_tubsFrom 4 = .ok (.iload_n 3, 1) := by decide +kernel
theorem dX5_tubsFrom_5 : decode cX5_tubsFrom 5 = .ok (.bipush 9, 2) := by decide +kernel
theorem dX5_tubsFrom_7 : decode cX5_tubsFrom 7 = .ok (.if_icmp .gt 18, 3) := by decide +kernel
theorem dX5_tubsFrom_10 : decode cX5_tubsFrom 10 = .ok (.iload_n 2, 1) := by decide +kernel
theorem dX5_tubsFrom_11 : decode cX5_tubsFrom 11 = .ok (.aload_n 0, 1) := by decide +kernel
theorem dX5_tubsFrom_12 : decode cX5_tubsFrom 12 = .ok (.getfield 27, 3) := by decide +kernel
theorem dX5_tubsFrom_15 : decode cX5_tubsFrom 15 = .ok (.iload_n 3, 1) := by decide +kernel
theorem dX5_tubsFrom_16 : decode cX5_tubsFrom 16 = .ok (.iaload, 1) := by decide +kernel
theorem dX5_tubsFrom_17 : decode cX5_tubsFrom 17 = .ok (.iadd, 1) := by decide +kernel
theorem dX5_tubsFrom_18 : decode cX5_tubsFrom 18 = .ok (.istore_n 2, 1) := by decide +kernel
theorem dX5_tubsFrom_19 : decode cX5_tubsFrom 19 = .ok (.iinc 3 1, 3) := by decide +kernel
theorem dX5_tubsFrom_22 : decode cX5_tubsFrom 22 = .ok (.goto (-18), 3) := by decide +kernel
theorem dX5_tubsFrom_25 : decode cX5_tubsFrom 25 = .ok (.iload_n 2, 1) := by decide +kernel
theorem dX5_tubsFrom_26 : decode cX5_tubsFrom 26 = .ok (.ireturn, 1) := by decide +kernel
theorem dX5_giveTubs_0 : decode cX5_giveTubs 0 = .ok (.iload_n 2, 1) := by decide +kernel
theorem dX5_giveTubs_1 : decode cX5_giveTubs 1 = .ok (.istore_n 3, 1) := by decide +kernel
theorem dX5_giveTubs_2 : decode cX5_giveTubs 2 = .ok (.iload_n 1, 1) := by decide +kernel
theorem dX5_giveTubs_3 : decode cX5_giveTubs 3 = .ok (.istore 4, 2) := by decide +kernel
theorem dX5_giveTubs_5 : decode cX5_giveTubs 5 = .ok (.iload 4, 2) := by decide +kernel
theorem dX5_giveTubs_7 : decode cX5_giveTubs 7 = .ok (.bipush 9, 2) := by decide +kernel
theorem dX5_giveTubs_9 : decode cX5_giveTubs 9 = .ok (.if_icmp .gt 39, 3) := by decide +kernel
theorem dX5_giveTubs_12 : decode cX5_giveTubs 12 = .ok (.iload_n 3, 1) := by decide +kernel
theorem dX5_giveTubs_13 : decode cX5_giveTubs 13 = .ok (.aload_n 0, 1) := by decide +kernel
theorem dX5_giveTubs_14 : decode cX5_giveTubs 14 = .ok (.getfield 27, 3) := by decide +kernel
theorem dX5_giveTubs_17 : decode cX5_giveTubs 17 = .ok (.iload 4, 2) := by decide +kernel
theorem dX5_giveTubs_19 : decode cX5_giveTubs 19 = .ok (.iaload, 1) := by decide +kernel
theorem dX5_giveTubs_20 : decode cX5_giveTubs 20 = .ok (.invokestatic 83, 3) := by decide +kernel
theorem dX5_giveTubs_23 : decode cX5_giveTubs 23 = .ok (.istore 5, 2) := by decide +kernel
theorem dX5_giveTubs_25 : decode cX5_giveTubs 25 = .ok (.aload_n 0, 1) := by decide +kernel
theorem dX5_giveTubs_26 : decode cX5_giveTubs 26 = .ok (.getfield 27, 3) := by decide +kernel
theorem dX5_giveTubs_29 : decode cX5_giveTubs 29 = .ok (.iload 4, 2) := by decide +kernel
theorem dX5_giveTubs_31 : decode cX5_giveTubs 31 = .ok (.dup2, 1) := by decide +kernel
theorem dX5_giveTubs_32 : decode cX5_giveTubs 32 = .ok (.iaload, 1) := by decide +kernel
theorem dX5_giveTubs_33 : decode cX5_giveTubs 33 = .ok (.iload 5, 2) := by decide +kernel
theorem dX5_giveTubs_35 : decode cX5_giveTubs 35 = .ok (.isub, 1) := by decide +kernel
theorem dX5_giveTubs_36 : decode cX5_giveTubs 36 = .ok (.iastore, 1) := by decide +kernel
theorem dX5_giveTubs_37 : decode cX5_giveTubs 37 = .ok (.iload_n 3, 1) := by decide +kernel
theorem dX5_giveTubs_38 : decode cX5_giveTubs 38 = .ok (.iload 5, 2) := by decide +kernel
theorem dX5_giveTubs_40 : decode cX5_giveTubs 40 = .ok (.isub, 1) := by decide +kernel
theorem dX5_giveTubs_41 : decode cX5_giveTubs 41 = .ok (.istore_n 3, 1) := by decide +kernel
theorem dX5_giveTubs_42 : decode cX5_giveTubs 42 = .ok (.iinc 4 1, 3) := by decide +kernel
theorem dX5_giveTubs_45 : decode cX5_giveTubs 45 = .ok (.goto (-40), 3) := by decide +kernel
theorem dX5_giveTubs_48 : decode cX5_giveTubs 48 = .ok (.return_, 1) := by decide +kernel
theorem dX5_tubGrades_0 : decode cX5_tubGrades 0 = .ok (.iconst 0, 1) := by decide +kernel
theorem dX5_tubGrades_1 : decode cX5_tubGrades 1 = .ok (.istore_n 1, 1) := by decide +kernel
theorem dX5_tubGrades_2 : decode cX5_tubGrades 2 = .ok (.iconst 0, 1) := by decide +kernel
theorem dX5_tubGrades_3 : decode cX5_tubGrades 3 = .ok (.istore_n 2, 1) := by decide +kernel
theorem dX5_tubGrades_4 : decode cX5_tubGrades 4 = .ok (.iload_n 2, 1) := by decide +kernel
theorem dX5_tubGrades_5 : decode cX5_tubGrades 5 = .ok (.bipush 9, 2) := by decide +kernel
theorem dX5_tubGrades_7 : decode cX5_tubGrades 7 = .ok (.if_icmp .gt 20, 3) := by decide +kernel
theorem dX5_tubGrades_10 : decode cX5_tubGrades 10 = .ok (.iload_n 1, 1) := by decide +kernel
theorem dX5_tubGrades_11 : decode cX5_tubGrades 11 = .ok (.iload_n 2, 1) := by decide +kernel
theorem dX5_tubGrades_12 : decode cX5_tubGrades 12 = .ok (.aload_n 0, 1) := by decide +kernel
theorem dX5_tubGrades_13 : decode cX5_tubGrades 13 = .ok (.getfield 27, 3) := by decide +kernel
theorem dX5_tubGrades_16 : decode cX5_tubGrades 16 = .ok (.iload_n 2, 1) := by decide +kernel
theorem dX5_tubGrades_17 : decode cX5_tubGrades 17 = .ok (.iaload, 1) := by decide +kernel
theorem dX5_tubGrades_18 : decode cX5_tubGrades 18 = .ok (.imul, 1) := by decide +kernel
theorem dX5_tubGrades_19 : decode cX5_tubGrades 19 = .ok (.iadd, 1) := by decide +kernel
theorem dX5_tubGrades_20 : decode cX5_tubGrades 20 = .ok (.istore_n 1, 1) := by decide +kernel
theorem dX5_tubGrades_21 : decode cX5_tubGrades 21 = .ok (.iinc 2 1, 3) := by decide +kernel
theorem dX5_tubGrades_24 : decode cX5_tubGrades 24 = .ok (.goto (-20), 3) := by decide +kernel
theorem dX5_tubGrades_27 : decode cX5_tubGrades 27 = .ok (.iload_n 1, 1) := by decide +kernel
theorem dX5_tubGrades_28 : decode cX5_tubGrades 28 = .ok (.ireturn, 1) := by decide +kernel
set_option maxRecDepth 20000 in
theorem ggX5_wholeWorth_X5_tubGrades : GoodIn wsX5_wholeWorth wsX5_tubGrades := goodIn_r _ [6, 7, 12, 13, 14, 15, 16, 17, 18, 19] (by decide +kernel) (by decide +kernel)
set_option maxRecDepth 20000 in
theorem gX5_wholeWorth_X5_tubGrades : GoodIn wsX5_wholeWorth (wsV RX5 89 RX5 yX5_tubGrades wsX5_tubGrades) := goodIn_app (goodIn_of _ (by decide +kernel)) ggX5_wholeWorth_X5_tubGrades
set_option maxRecDepth 20000 in
theorem ggX5_wholeWorth_X5_isSolid : GoodIn wsX5_wholeWorth wsX5_isSolid := goodIn_r _ [11, 1, 12, 13, 14, 15, 16, 17, 18, 19] (by decide +kernel) (by decide +kernel)
set_option maxRecDepth 20000 in
theorem gX5_wholeWorth_X5_isSolid : GoodIn wsX5_wholeWorth (wsV RX5 69 RX5 yX5_isSolid wsX5_isSolid) := goodIn_app (goodIn_of _ (by decide +kernel)) ggX5_wholeWorth_X5_isSolid
theorem dX5_wholeWorth_0 : decode cX5_wholeWorth 0 = .ok (.aload_n 0, 1) := by decide +kernel
theorem dX5_wholeWorth_1 : decode cX5_wholeWorth 1 = .ok (.invokevirtual 89, 3) := by decide +kernel
theorem dX5_wholeWorth_4 : decode cX5_wholeWorth 4 = .ok (.istore_n 1, 1) := by decide +kernel
theorem dX5_wholeWorth_5 : decode cX5_wholeWorth 5 = .ok (.iconst 0, 1) := by decide +kernel
theorem dX5_wholeWorth_6 : decode cX5_wholeWorth 6 = .ok (.istore_n 2, 1) := by decide +kernel
theorem dX5_wholeWorth_7 : decode cX5_wholeWorth 7 = .ok (.iload_n 2, 1) := by decide +kernel
theorem dX5_wholeWorth_8 : decode cX5_wholeWorth 8 = .ok (.bipush 72, 2) := by decide +kernel
theorem dX5_wholeWorth_10 : decode cX5_wholeWorth 10 = .ok (.if_icmp .ge 26, 3) := by decide +kernel
theorem dX5_wholeWorth_13 : decode cX5_wholeWorth 13 = .ok (.aload_n 0, 1) := by decide +kernel
theorem dX5_wholeWorth_14 : decode cX5_wholeWorth 14 = .ok (.iload_n 2, 1) := by decide +kernel
theorem dX5_wholeWorth_15 : decode cX5_wholeWorth 15 = .ok (.invokevirtual 69, 3) := by decide +kernel
theorem dX5_wholeWorth_18 : decode cX5_wholeWorth 18 = .ok (.ifCond .eq 12, 3) := by decide +kernel
theorem dX5_wholeWorth_21 : decode cX5_wholeWorth 21 = .ok (.iload_n 1, 1) := by decide +kernel
theorem dX5_wholeWorth_22 : decode cX5_wholeWorth 22 = .ok (.aload_n 0, 1) := by decide +kernel
theorem dX5_wholeWorth_23 : decode cX5_wholeWorth 23 = .ok (.getfield 9, 3) := by decide +kernel
theorem dX5_wholeWorth_26 : decode cX5_wholeWorth 26 = .ok (.iload_n 2, 1) := by decide +kernel
theorem dX5_wholeWorth_27 : decode cX5_wholeWorth 27 = .ok (.iaload, 1) := by decide +kernel
theorem dX5_wholeWorth_28 : decode cX5_wholeWorth 28 = .ok (.iadd, 1) := by decide +kernel
theorem dX5_wholeWorth_29 : decode cX5_wholeWorth 29 = .ok (.istore_n 1, 1) := by decide +kernel
theorem dX5_wholeWorth_30 : decode cX5_wholeWorth 30 = .ok (.iinc 2 1, 3) := by decide +kernel
theorem dX5_wholeWorth_33 : decode cX5_wholeWorth 33 = .ok (.goto (-26), 3) := by decide +kernel
theorem dX5_wholeWorth_36 : decode cX5_wholeWorth 36 = .ok (.iload_n 1, 1) := by decide +kernel
theorem dX5_wholeWorth_37 : decode cX5_wholeWorth 37 = .ok (.ireturn, 1) := by decide +kernel
theorem dX5_changeRows_0 : decode cX5_changeRows 0 = .ok (.aload_n 0, 1) := by decide +kernel
theorem dX5_changeRows_1 : decode cX5_changeRows 1 = .ok (.getfield 18, 3) := by decide +kernel
theorem dX5_changeRows_4 : decode cX5_changeRows 4 = .ok (.iload_n 1, 1) := by decide +kernel
theorem dX5_changeRows_5 : decode cX5_changeRows 5 = .ok (.iaload, 1) := by decide +kernel
theorem dX5_changeRows_6 : decode cX5_changeRows 6 = .ok (.istore_n 3, 1) := by decide +kernel
theorem dX5_changeRows_7 : decode cX5_changeRows 7 = .ok (.aload_n 0, 1) := by decide +kernel
theorem dX5_changeRows_8 : decode cX5_changeRows 8 = .ok (.getfield 21, 3) := by decide +kernel
theorem dX5_changeRows_11 : decode cX5_changeRows 11 = .ok (.iload_n 1, 1) := by decide +kernel
theorem dX5_changeRows_12 : decode cX5_changeRows 12 = .ok (.iaload, 1) := by decide +kernel
theorem dX5_changeRows_13 : decode cX5_changeRows 13 = .ok (.istore 4, 2) := by decide +kernel
theorem dX5_changeRows_15 : decode cX5_changeRows 15 = .ok (.aload_n 0, 1) := by decide +kernel
theorem dX5_changeRows_16 : decode cX5_changeRows 16 = .ok (.getfield 18, 3) := by decide +kernel
theorem dX5_changeRows_19 : decode cX5_changeRows 19 = .ok (.iload_n 1, 1) := by decide +kernel
theorem dX5_changeRows_20 : decode cX5_changeRows 20 = .ok (.aload_n 0, 1) := by decide +kernel
theorem dX5_changeRows_21 : decode cX5_changeRows 21 = .ok (.getfield 18, 3) := by decide +kernel
theorem dX5_changeRows_24 : decode cX5_changeRows 24 = .ok (.iload_n 2, 1) := by decide +kernel
theorem dX5_changeRows_25 : decode cX5_changeRows 25 = .ok (.iaload, 1) := by decide +kernel
theorem dX5_changeRows_26 : decode cX5_changeRows 26 = .ok (.iastore, 1) := by decide +kernel
theorem dX5_changeRows_27 : decode cX5_changeRows 27 = .ok (.aload_n 0, 1) := by decide +kernel
theorem dX5_changeRows_28 : decode cX5_changeRows 28 = .ok (.getfield 21, 3) := by decide +kernel
theorem dX5_changeRows_31 : decode cX5_changeRows 31 = .ok (.iload_n 1, 1) := by decide +kernel
theorem dX5_changeRows_32 : decode cX5_changeRows 32 = .ok (.aload_n 0, 1) := by decide +kernel
theorem dX5_changeRows_33 : decode cX5_changeRows 33 = .ok (.getfield 21, 3) := by decide +kernel
theorem dX5_changeRows_36 : decode cX5_changeRows 36 = .ok (.iload_n 2, 1) := by decide +kernel
theorem dX5_changeRows_37 : decode cX5_changeRows 37 = .ok (.iaload, 1) := by decide +kernel
theorem dX5_changeRows_38 : decode cX5_changeRows 38 = .ok (.iastore, 1) := by decide +kernel
theorem dX5_changeRows_39 : decode cX5_changeRows 39 = .ok (.aload_n 0, 1) := by decide +kernel
theorem dX5_changeRows_40 : decode cX5_changeRows 40 = .ok (.getfield 18, 3) := by decide +kernel
theorem dX5_changeRows_43 : decode cX5_changeRows 43 = .ok (.iload_n 2, 1) := by decide +kernel
theorem dX5_changeRows_44 : decode cX5_changeRows 44 = .ok (.iload_n 3, 1) := by decide +kernel
theorem dX5_changeRows_45 : decode cX5_changeRows 45 = .ok (.iastore, 1) := by decide +kernel
theorem dX5_changeRows_46 : decode cX5_changeRows 46 = .ok (.aload_n 0, 1) := by decide +kernel
theorem dX5_changeRows_47 : decode cX5_changeRows 47 = .ok (.getfield 21, 3) := by decide +kernel
theorem dX5_changeRows_50 : decode cX5_changeRows 50 = .ok (.iload_n 2, 1) := by decide +kernel
theorem dX5_changeRows_51 : decode cX5_changeRows 51 = .ok (.iload 4, 2) := by decide +kernel
theorem dX5_changeRows_53 : decode cX5_changeRows 53 = .ok (.iastore, 1) := by decide +kernel
theorem dX5_changeRows_54 : decode cX5_changeRows 54 = .ok (.return_, 1) := by decide +kernel
set_option maxHeartbeats 8000000 in
set_option maxRecDepth 100000 in
theorem c_p_isOpen (l : Launch) (g : Nat → ClassId) (D : va_G) (pt : Nat) (pt_shift : Int32) (pt_purse : Int32) (pt_cells : Nat) (pt_hurts : Nat) (pt_planMiners : Nat) (pt_planPlaces : Nat) (pt_sold : Nat) (pt_tubCounts : Nat) (ptf_cells : Nat → Int32) (a1 : Int32) (b_pt_shift : 0 ≤ (pt_shift).toInt ∧ (pt_shift).toInt ≤ 999) (b_pt_purse : 0 ≤ (pt_purse).toInt ∧ (pt_purse).toInt ≤ 99999) (b_ptf_cells : dk_row 72 ptf_cells dk_Pcel) (b_a1 : 0 ≤ (a1).toInt ∧ (a1).toInt ≤ 71) (sz : Nat) : Met l yX5_isOpen wsX5_isOpen ({ frames := 1, cells := 0, slots := 0, locals := 32 } : Room) (dk_Pc g D [(pt, .inr (5, [.int pt_shift, .int pt_purse, .ref pt_cells, .ref pt_hurts, .ref pt_planMiners, .ref pt_planPlaces, .ref pt_sold, .ref pt_tubCounts])), (pt_cells, .inl (g 0, 72, .inl ptf_cells))] sz [.ref pt, .int a1]) (va_Qi (fun (r : Int32) (_ : Unit) => (0 ≤ (r).toInt ∧ (r).toInt ≤ 1) ∧ True) (dk_B D (va_A [(pt, .inr (5, [.int pt_shift, .int pt_purse, .ref pt_cells, .ref pt_hurts, .ref pt_planMiners, .ref pt_planPlaces, .ref pt_sold, .ref pt_tubCounts])), (pt_cells, .inl (g 0, 72, .inl ptf_cells))] sz) (fun (_ : Unit) => [(pt, .inr (5, [.int pt_shift, .int pt_purse, .ref pt_cells, .ref pt_hurts, .ref pt_planMiners, .ref pt_planPlaces, .ref pt_sold, .ref pt_tubCounts])), (pt_cells, .inl (g 0, 72, .inl ptf_cells))])) (va_A [(pt, .inr (5, [.int pt_shift, .int pt_purse, .ref pt_cells, .ref pt_hurts, .ref pt_planMiners, .ref pt_planPlaces, .ref pt_sold, .ref pt_tubCounts])), (pt_cells, .inl (g 0, 72, .inl ptf_cells))] sz)) 0 0 (va_A [(pt, .inr (5, [.int pt_shift, .int pt_purse, .ref pt_cells, .ref pt_hurts, .ref pt_planMiners, .ref pt_planPlaces, .ref pt_sold, .ref pt_tubCounts])), (pt_cells, .inl (g 0, 72, .inl ptf_cells))] sz) := by
  refine dk_met (cc := cX5_isOpen) (maxL := 2) (ret := (some .boolean)) (by decide) rfl (Nat.le_of_ble_eq_true rfl) ?_
  intro p e s m args below meth c harg hx hb hr hml hts hown hlocks hin hP K hD hS hA ST hsz ls hl
  subst hsz
  generalize va_A [(pt, .inr (5, [.int pt_shift, .int pt_purse, .ref pt_cells, .ref pt_hurts, .ref pt_planMiners, .ref pt_planPlaces, .ref pt_sold, .ref pt_tubCounts])), (pt_cells, .inl (g 0, 72, .inl ptf_cells))] s.heap.size = A at hD hS hA ST ⊢
  have F : CallFix p m c cX5_isOpen 2 s args wsX5_isOpen RX5 := ⟨hx, hb, hml, hown, hts⟩
  have hl : lv_has ls 2 [(0, .ref pt), (1, .int a1)] := hl
  have iX5 : ∀ w ∈ wsX50, w ∈ wsX5_isOpen := fun _ h => List.mem_cons_of_mem _ (List.mem_append_right _ h)
  refine lv_aload_n hx hb dX5_isOpen_0 rfl (lv_at hl 0 rfl) ?_
  refine va_get (C := RX5) (T := TX5) (N := 8) hx hb hts iX5 hown K.1 hP 0 rfl rfl 2 (by decide) (hts (.fieldLink RX5 9 "DarkMine$Pit" "cells" "[I") (by decide +kernel)) (fun _ h9 => h9) (v := .ref pt_cells) rfl dX5_isOpen_1 ?_
  refine lv_iload_n hx hb dX5_isOpen_4 rfl (lv_at hl 1 rfl) ?_
  have hin_2 : vp_in a1 72 := (dk_inv (by omega) (by omega))
  refine dk_iald hx hb K hP 1 rfl hin_2 rfl dX5_isOpen_5 ?_
  refine lv_topi (fun x_1 ex_1 => ?_)
  have jx_1 : 0 ≤ (x_1).toInt ∧ (x_1).toInt ≤ 255 ∧ (254 ≤ (x_1).toInt → 8 ≤ (a1 : Int32).toInt ∧ (a1 : Int32).toInt ≤ 63) := dk_row_at b_ptf_cells hin_2 ex_1
  refine lv_sipush (v := 254) hx hb dX5_isOpen_6 (by decide +kernel) ?_
  refine lv_icmp_lt (tgt := 16) hx hb dX5_isOpen_9 (by decide) (fun c_3 => ?_) (fun c_3 => ?_)
  · have jc_3 := dk_ltc (k := 254) (by decide +kernel) c_3
    refine lv_iconst (v := 0) hx hb dX5_isOpen_16 (by decide +kernel) ?_
    refine W.widen (k := 0) (n := 0) (Nat.le_of_ble_eq_true rfl) (Nat.le_of_ble_eq_true rfl) ?_
    exact dk_iret hx hb hr hlocks (by decide +kernel) hP hD hS () [0, 1] rfl (by decide) ⟨(by decide +kernel), trivial⟩ dX5_isOpen_17
  · have jc_3 := dk_nltc (k := 254) (by decide +kernel) c_3
    refine lv_iconst (v := 1) hx hb dX5_isOpen_12 (by decide +kernel) ?_
    refine lv_goto (tgt := 17) hx hb dX5_isOpen_13 (by decide) ?_
    refine W.widen (k := 0) (n := 0) (Nat.le_of_ble_eq_true rfl) (Nat.le_of_ble_eq_true rfl) ?_
    exact dk_iret hx hb hr hlocks (by decide +kernel) hP hD hS () [0, 1] rfl (by decide) ⟨(by decide +kernel), trivial⟩ dX5_isOpen_17
set_option maxHeartbeats 8000000 in
set_option maxRecDepth 100000 in
theorem c_p_isSolid (l : Launch) (g : Nat → ClassId) (D : va_G) (pt : Nat) (pt_shift : Int32) (pt_purse : Int32) (pt_cells : Nat) (pt_hurts : Nat) (pt_planMiners : Nat) (pt_planPlaces : Nat) (pt_sold : Nat) (pt_tubCounts : Nat) (ptf_cells : Nat → Int32) (a1 : Int32) (b_pt_shift : 0 ≤ (pt_shift).toInt ∧ (pt_shift).toInt ≤ 999) (b_pt_purse : 0 ≤ (pt_purse).toInt ∧ (pt_purse).toInt ≤ 99999) (b_ptf_cells : dk_row 72 ptf_cells dk_Pcel) (b_a1 : 0 ≤ (a1).toInt ∧ (a1).toInt ≤ 71) (sz : Nat) : Met l yX5_isSolid wsX5_isSolid ({ frames := 1, cells := 0, slots := 0, locals := 32 } : Room) (dk_Pc g D [(pt, .inr (5, [.int pt_shift, .int pt_purse, .ref pt_cells, .ref pt_hurts, .ref pt_planMiners, .ref pt_planPlaces, .ref pt_sold, .ref pt_tubCounts])), (pt_cells, .inl (g 0, 72, .inl ptf_cells))] sz [.ref pt, .int a1]) (va_Qi (fun (r : Int32) (_ : Unit) => (0 ≤ (r).toInt ∧ (r).toInt ≤ 1) ∧ True) (dk_B D (va_A [(pt, .inr (5, [.int pt_shift, .int pt_purse, .ref pt_cells, .ref pt_hurts, .ref pt_planMiners, .ref pt_planPlaces, .ref pt_sold, .ref pt_tubCounts])), (pt_cells, .inl (g 0, 72, .inl ptf_cells))] sz) (fun (_ : Unit) => [(pt, .inr (5, [.int pt_shift, .int pt_purse, .ref pt_cells, .ref pt_hurts, .ref pt_planMiners, .ref pt_planPlaces, .ref pt_sold, .ref pt_tubCounts])), (pt_cells, .inl (g 0, 72, .inl ptf_cells))])) (va_A [(pt, .inr (5, [.int pt_shift, .int pt_purse, .ref pt_cells, .ref pt_hurts, .ref pt_planMiners, .ref pt_planPlaces, .ref pt_sold, .ref pt_tubCounts])), (pt_cells, .inl (g 0, 72, .inl ptf_cells))] sz)) 0 0 (va_A [(pt, .inr (5, [.int pt_shift, .int pt_purse, .ref pt_cells, .ref pt_hurts, .ref pt_planMiners, .ref pt_planPlaces, .ref pt_sold, .ref pt_tubCounts])), (pt_cells, .inl (g 0, 72, .inl ptf_cells))] sz) := by
  refine dk_met (cc := cX5_isSolid) (maxL := 2) (ret := (some .boolean)) (by decide) rfl (Nat.le_of_ble_eq_true rfl) ?_
  intro p e s m args below meth c harg hx hb hr hml hts hown hlocks hin hP K hD hS hA ST hsz ls hl
  subst hsz
  generalize va_A [(pt, .inr (5, [.int pt_shift, .int pt_purse, .ref pt_cells, .ref pt_hurts, .ref pt_planMiners, .ref pt_planPlaces, .ref pt_sold, .ref pt_tubCounts])), (pt_cells, .inl (g 0, 72, .inl ptf_cells))] s.heap.size = A at hD hS hA ST ⊢
  have F : CallFix p m c cX5_isSolid 2 s args wsX5_isSolid RX5 := ⟨hx, hb, hml, hown, hts⟩
  have hl : lv_has ls 2 [(0, .ref pt), (1, .int a1)] := hl
  have iX5 : ∀ w ∈ wsX50, w ∈ wsX5_isSolid := fun _ h => List.mem_cons_of_mem _ (List.mem_append_right _ h)
  refine lv_aload_n hx hb dX5_isSolid_0 rfl (lv_at hl 0 rfl) ?_
  refine va_get (C := RX5) (T := TX5) (N := 8) hx hb hts iX5 hown K.1 hP 0 rfl rfl 2 (by decide) (hts (.fieldLink RX5 9 "DarkMine$Pit" "cells" "[I") (by decide +kernel)) (fun _ h9 => h9) (v := .ref pt_cells) rfl dX5_isSolid_1 ?_
  refine lv_iload_n hx hb dX5_isSolid_4 rfl (lv_at hl 1 rfl) ?_
  have hin_2 : vp_in a1 72 := (dk_inv (by omega) (by omega))
  refine dk_iald hx hb K hP 1 rfl hin_2 rfl dX5_isSolid_5 ?_
  refine lv_topi (fun x_1 ex_1 => ?_)
  have jx_1 : 0 ≤ (x_1).toInt ∧ (x_1).toInt ≤ 255 ∧ (254 ≤ (x_1).toInt → 8 ≤ (a1 : Int32).toInt ∧ (a1 : Int32).toInt ≤ 63) := dk_row_at b_ptf_cells hin_2 ex_1
  refine lv_bipush (v := 9) hx hb dX5_isSolid_6 (by decide +kernel) ?_
  refine lv_icmp_gt (tgt := 15) hx hb dX5_isSolid_8 (by decide) (fun c_3 => ?_) (fun c_3 => ?_)
  · have jc_3 := dk_gtc (k := 9) (by decide +kernel) c_3
    refine lv_iconst (v := 0) hx hb dX5_isSolid_15 (by decide +kernel) ?_
    refine W.widen (k := 0) (n := 0) (Nat.le_of_ble_eq_true rfl) (Nat.le_of_ble_eq_true rfl) ?_
    exact dk_iret hx hb hr hlocks (by decide +kernel) hP hD hS () [0, 1] rfl (by decide) ⟨(by decide +kernel), trivial⟩ dX5_isSolid_16
  · have jc_3 := dk_ngtc (k := 9) (by decide +kernel) c_3
    refine lv_iconst (v := 1) hx hb dX5_isSolid_11 (by decide +kernel) ?_
    refine lv_goto (tgt := 16) hx hb dX5_isSolid_12 (by decide) ?_
    refine W.widen (k := 0) (n := 0) (Nat.le_of_ble_eq_true rfl) (Nat.le_of_ble_eq_true rfl) ?_
    exact dk_iret hx hb hr hlocks (by decide +kernel) hP hD hS () [0, 1] rfl (by decide) ⟨(by decide +kernel), trivial⟩ dX5_isSolid_16
set_option maxHeartbeats 8000000 in
set_option maxRecDepth 100000 in
theorem c_p_gradeAt (l : Launch) (g : Nat → ClassId) (D : va_G) (pt : Nat) (pt_shift : Int32) (pt_purse : Int32) (pt_cells : Nat) (pt_hurts : Nat) (pt_planMiners : Nat) (pt_planPlaces : Nat) (pt_sold : Nat) (pt_tubCounts : Nat) (ptf_cells : Nat → Int32) (a1 : Int32) (b_pt_shift : 0 ≤ (pt_shift).toInt ∧ (pt_shift).toInt ≤ 999) (b_pt_purse : 0 ≤ (pt_purse).toInt ∧ (pt_purse).toInt ≤ 99999) (b_ptf_cells : dk_row 72 ptf_cells dk_Pcel) (b_a1 : 0 ≤ (a1).toInt ∧ (a1).toInt ≤ 71) (sz : Nat) : Met l yX5_gradeAt wsX5_gradeAt ({ frames := 2, cells := 0, slots := 0, locals := 53 } : Room) (dk_Pc g D [(pt, .inr (5, [.int pt_shift, .int pt_purse, .ref pt_cells, .ref pt_hurts, .ref pt_planMiners, .ref pt_planPlaces, .ref pt_sold, .ref pt_tubCounts])), (pt_cells, .inl (g 0, 72, .inl ptf_cells))] sz [.ref pt, .int a1]) (va_Qi (fun (r : Int32) (_ : Unit) => ((-1) ≤ (r).toInt ∧ (r).toInt ≤ 255) ∧ True) (dk_B D (va_A [(pt, .inr (5, [.int pt_shift, .int pt_purse, .ref pt_cells, .ref pt_hurts, .ref pt_planMiners, .ref pt_planPlaces, .ref pt_sold, .ref pt_tubCounts])), (pt_cells, .inl (g 0, 72, .inl ptf_cells))] sz) (fun (_ : Unit) => [(pt, .inr (5, [.int pt_shift, .int pt_purse, .ref pt_cells, .ref pt_hurts, .ref pt_planMiners, .ref pt_planPlaces, .ref pt_sold, .ref pt_tubCounts])), (pt_cells, .inl (g 0, 72, .inl ptf_cells))])) (va_A [(pt, .inr (5, [.int pt_shift, .int pt_purse, .ref pt_cells, .ref pt_hurts, .ref pt_planMiners, .ref pt_planPlaces, .ref pt_sold, .ref pt_tubCounts])), (pt_cells, .inl (g 0, 72, .inl ptf_cells))] sz)) 0 0 (va_A [(pt, .inr (5, [.int pt_shift, .int pt_purse, .ref pt_cells, .ref pt_hurts, .ref pt_planMiners, .ref pt_planPlaces, .ref pt_sold, .ref pt_tubCounts])), (pt_cells, .inl (g 0, 72, .inl ptf_cells))] sz) := by
  refine dk_met (cc := cX5_gradeAt) (maxL := 2) (ret := (some .int)) (by decide) rfl (Nat.le_of_ble_eq_true rfl) ?_
  intro p e s m args below meth c harg hx hb hr hml hts hown hlocks hin hP K hD hS hA ST hsz ls hl
  subst hsz
  generalize va_A [(pt, .inr (5, [.int pt_shift, .int pt_purse, .ref pt_cells, .ref pt_hurts, .ref pt_planMiners, .ref pt_planPlaces, .ref pt_sold, .ref pt_tubCounts])), (pt_cells, .inl (g 0, 72, .inl ptf_cells))] s.heap.size = A at hD hS hA ST ⊢
  have F : CallFix p m c cX5_gradeAt 2 s args wsX5_gradeAt RX5 := ⟨hx, hb, hml, hown, hts⟩
  have hl : lv_has ls 2 [(0, .ref pt), (1, .int a1)] := hl
  have iX5 : ∀ w ∈ wsX50, w ∈ wsX5_gradeAt := fun _ h => List.mem_cons_of_mem _ (List.mem_append_right _ h)
  refine lv_aload_n hx hb dX5_gradeAt_0 rfl (lv_at hl 0 rfl) ?_
  refine lv_iload_n hx hb dX5_gradeAt_1 rfl (lv_at hl 1 rfl) ?_
  refine dk_backi hP hD hS hA (wr := []) [0, 1] [] rfl rfl (by decide) (by decide) (va_runV (As := [.int a1]) (rest := []) F (c_p_isSolid l g D pt pt_shift pt_purse pt_cells pt_hurts pt_planMiners pt_planPlaces pt_sold pt_tubCounts ptf_cells a1 (by omega) (by omega) b_ptf_cells (by omega) s.heap.size) (cwV 1 hts gX5_gradeAt_X5_isSolid rfl rfl rfl (by decide +kernel) ⟨Nat.le_of_ble_eq_true rfl, Nat.le_of_ble_eq_true rfl⟩) (dk_preV K ST hP hD hS hA [0, 1] rfl (by decide) 0 rfl rfl) rfl rfl hl.1 rfl (lv_room (Nat.le_of_ble_eq_true rfl)) dX5_gradeAt_2 ⟨Nat.le_of_ble_eq_true rfl, Nat.le_of_ble_eq_true rfl⟩) (fun r u H locs hw hP hD hS => ?_)
  obtain ⟨x_2, rfl⟩ : ∃ z, z = r := ⟨_, rfl⟩
  obtain ⟨w_1, -⟩ := hw
  have w_1 : 0 ≤ (x_2).toInt ∧ (x_2).toInt ≤ 1 := w_1
  have hP : va_P D vwCl [(pt, .inr (5, [.int pt_shift, .int pt_purse, .ref pt_cells, .ref pt_hurts, .ref pt_planMiners, .ref pt_planPlaces, .ref pt_sold, .ref pt_tubCounts])), (pt_cells, .inl (g 0, 72, .inl ptf_cells))] H := hP
  have hD : va_D A [(pt, .inr (5, [.int pt_shift, .int pt_purse, .ref pt_cells, .ref pt_hurts, .ref pt_planMiners, .ref pt_planPlaces, .ref pt_sold, .ref pt_tubCounts])), (pt_cells, .inl (g 0, 72, .inl ptf_cells))] := hD
  refine lv_if_eq (tgt := 17) hx hb dX5_gradeAt_5 (by decide) (fun c_3 => ?_) (fun c_3 => ?_)
  · have jc_3 := dk_eqc (k := 0) (by decide +kernel) c_3
    refine lv_iconst (v := (-1)) hx hb dX5_gradeAt_17 (by decide +kernel) ?_
    refine W.widen (k := 0) (n := 0) (Nat.le_of_ble_eq_true rfl) (Nat.le_of_ble_eq_true rfl) ?_
    exact dk_iret hx hb hr hlocks rfl hP hD hS () [0, 1] rfl (by decide) ⟨(by decide +kernel), trivial⟩ dX5_gradeAt_18
  · have jc_3 := dk_neqc (k := 0) (by decide +kernel) c_3
    refine lv_aload_n hx hb dX5_gradeAt_8 rfl (lv_at hl 0 rfl) ?_
    refine va_get (C := RX5) (T := TX5) (N := 8) hx hb hts iX5 hown K.1 hP 0 rfl rfl 2 (by decide) (hts (.fieldLink RX5 9 "DarkMine$Pit" "cells" "[I") (by decide +kernel)) (fun _ h9 => h9) (v := .ref pt_cells) rfl dX5_gradeAt_9 ?_
    refine lv_iload_n hx hb dX5_gradeAt_12 rfl (lv_at hl 1 rfl) ?_
    have hin_5 : vp_in a1 72 := (dk_inv (by omega) (by omega))
    refine dk_iald hx hb K hP 1 rfl hin_5 rfl dX5_gradeAt_13 ?_
    refine lv_topi (fun x_4 ex_4 => ?_)
    have jx_4 : 0 ≤ (x_4).toInt ∧ (x_4).toInt ≤ 255 ∧ (254 ≤ (x_4).toInt → 8 ≤ (a1 : Int32).toInt ∧ (a1 : Int32).toInt ≤ 63) := dk_row_at b_ptf_cells hin_5 ex_4
    refine lv_goto (tgt := 18) hx hb dX5_gradeAt_14 (by decide) ?_
    refine W.widen (k := 0) (n := 0) (Nat.le_of_ble_eq_true rfl) (Nat.le_of_ble_eq_true rfl) ?_
    exact dk_iret hx hb hr hlocks rfl hP hD hS () [0, 1] rfl (by decide) ⟨(by omega), trivial⟩ dX5_gradeAt_18
set_option maxHeartbeats 8000000 in
set_option maxRecDepth 100000 in
theorem c_p_addTub (l : Launch) (g : Nat → ClassId) (D : va_G) (pt : Nat) (pt_shift : Int32) (pt_purse : Int32) (pt_cells : Nat) (pt_hurts : Nat) (pt_planMiners : Nat) (pt_planPlaces : Nat) (pt_sold : Nat) (pt_tubCounts : Nat) (ptf_tubCounts : Nat → Int32) (a1 : Int32) (b_pt_shift : 0 ≤ (pt_shift).toInt ∧ (pt_shift).toInt ≤ 999) (b_pt_purse : 0 ≤ (pt_purse).toInt ∧ (pt_purse).toInt ≤ 99999) (b_ptf_tubCounts : dk_all 10 ptf_tubCounts 0 99) (b_a1 : 0 ≤ (a1).toInt ∧ (a1).toInt ≤ 9) (sz : Nat) : Met l yX5_addTub wsX5_addTub ({ frames := 2, cells := 0, slots := 0, locals := 40 } : Room) (dk_Pc g D [(pt, .inr (5, [.int pt_shift, .int pt_purse, .ref pt_cells, .ref pt_hurts, .ref pt_planMiners, .ref pt_planPlaces, .ref pt_sold, .ref pt_tubCounts])), (pt_tubCounts, .inl (g 0, 10, .inl ptf_tubCounts))] sz [.ref pt, .int a1]) (va_Qv (fun (u : (Nat → Int32)) => dk_all 10 u 0 99 ∧ True) (dk_B D (va_A [(pt, .inr (5, [.int pt_shift, .int pt_purse, .ref pt_cells, .ref pt_hurts, .ref pt_planMiners, .ref pt_planPlaces, .ref pt_sold, .ref pt_tubCounts])), (pt_tubCounts, .inl (g 0, 10, .inl ptf_tubCounts))] sz) (fun (u : (Nat → Int32)) => [(pt, .inr (5, [.int pt_shift, .int pt_purse, .ref pt_cells, .ref pt_hurts, .ref pt_planMiners, .ref pt_planPlaces, .ref pt_sold, .ref pt_tubCounts])), (pt_tubCounts, .inl (g 0, 10, .inl u))])) (va_A [(pt, .inr (5, [.int pt_shift, .int pt_purse, .ref pt_cells, .ref pt_hurts, .ref pt_planMiners, .ref pt_planPlaces, .ref pt_sold, .ref pt_tubCounts])), (pt_tubCounts, .inl (g 0, 10, .inl ptf_tubCounts))] sz)) 0 0 (va_A [(pt, .inr (5, [.int pt_shift, .int pt_purse, .ref pt_cells, .ref pt_hurts, .ref pt_planMiners, .ref pt_planPlaces, .ref pt_sold, .ref pt_tubCounts])), (pt_tubCounts, .inl (g 0, 10, .inl ptf_tubCounts))] sz) := by
  refine dk_met (cc := cX5_addTub) (maxL := 2) (ret := none) (by decide) rfl (Nat.le_of_ble_eq_true rfl) ?_
  intro p e s m args below meth c harg hx hb hr hml hts hown hlocks hin hP K hD hS hA ST hsz ls hl
  subst hsz
  generalize va_A [(pt, .inr (5, [.int pt_shift, .int pt_purse, .ref pt_cells, .ref pt_hurts, .ref pt_planMiners, .ref pt_planPlaces, .ref pt_sold, .ref pt_tubCounts])), (pt_tubCounts, .inl (g 0, 10, .inl ptf_tubCounts))] s.heap.size = A at hD hS hA ST ⊢
  have F : CallFix p m c cX5_addTub 2 s args wsX5_addTub RX5 := ⟨hx, hb, hml, hown, hts⟩
  have hl : lv_has ls 2 [(0, .ref pt), (1, .int a1)] := hl
  have iX5 : ∀ w ∈ wsX50, w ∈ wsX5_addTub := fun _ h => List.mem_cons_of_mem _ (List.mem_append_right _ h)
  refine lv_aload_n hx hb dX5_addTub_0 rfl (lv_at hl 0 rfl) ?_
  refine va_get (C := RX5) (T := TX5) (N := 8) hx hb hts iX5 hown K.1 hP 0 rfl rfl 7 (by decide) (hts (.fieldLink RX5 27 "DarkMine$Pit" "tubCounts" "[I") (by decide +kernel)) (fun _ h9 => h9) (v := .ref pt_tubCounts) rfl dX5_addTub_1 ?_
  refine lv_iload_n hx hb dX5_addTub_4 rfl (lv_at hl 1 rfl) ?_
  refine lv_bipush (v := 99) hx hb dX5_addTub_5 (by decide +kernel) ?_
  refine lv_aload_n hx hb dX5_addTub_7 rfl (lv_at hl 0 rfl) ?_
  refine va_get (C := RX5) (T := TX5) (N := 8) hx hb hts iX5 hown K.1 hP 0 rfl rfl 7 (by decide) (hts (.fieldLink RX5 27 "DarkMine$Pit" "tubCounts" "[I") (by decide +kernel)) (fun _ h9 => h9) (v := .ref pt_tubCounts) rfl dX5_addTub_8 ?_
  refine lv_iload_n hx hb dX5_addTub_11 rfl (lv_at hl 1 rfl) ?_
  have hin_2 : vp_in a1 10 := (dk_inv (by omega) (by omega))
  refine dk_iald hx hb K hP 1 rfl hin_2 rfl dX5_addTub_12 ?_
  refine lv_topi (fun x_1 ex_1 => ?_)
  have jx_1 := dk_all_at b_ptf_tubCounts hin_2 ex_1
  refine lv_iconst (v := 1) hx hb dX5_addTub_13 (by decide +kernel) ?_
  refine lv_iadd hx hb dX5_addTub_14 ?_
  refine lv_topi (fun x_3 ex_3 => ?_)
  have jx_3 : (x_3).toInt = (x_1).toInt + 1 := by rw [ex_3]; exact dk_addT rfl (by decide +kernel) (by omega) (by omega)
  refine va_mmin hx hb (by rw [hml]; exact hl.1.symm) hown (hts (.methodLink RX5 83 Lib.Math.min.name) (by decide +kernel)) (hts (.static Lib.Math.min.name) (by decide +kernel)) (hts (.initialized "java/lang/Math") (by decide +kernel)) (hts _ (List.mem_of_getElem? (i := 5) rfl)) (Nat.le_of_ble_eq_true rfl) (Nat.le_of_ble_eq_true rfl) (Nat.le_of_ble_eq_true rfl) (Nat.le_of_ble_eq_true rfl) dX5_addTub_15 ?_
  refine lv_topi (fun x_4 ex_4 => ?_)
  have jx_4 := dk_minT (a := 99) (b := (x_3).toInt) (by decide +kernel) rfl ex_4
  obtain ⟨f_5, hf_5⟩ : ∃ f', f' = upd ptf_tubCounts (a1 : Int32).toNatClampNeg x_4 := ⟨_, rfl⟩
  have hin_6 : vp_in a1 10 := (dk_inv (by omega) (by omega))
  have jf_5 := dk_all_upd b_ptf_tubCounts _ (show 0 ≤ (x_4).toInt ∧ (x_4).toInt ≤ 99 from (by omega)) hf_5
  refine dk_iast hx hb K hP hD hS 1 rfl f_5 (fun _ _ => by rw [hf_5]) hin_6 dX5_addTub_18 (fun H locs hP hD hS => ?_)
  have hP : va_P D vwCl [(pt, .inr (5, [.int pt_shift, .int pt_purse, .ref pt_cells, .ref pt_hurts, .ref pt_planMiners, .ref pt_planPlaces, .ref pt_sold, .ref pt_tubCounts])), (pt_tubCounts, .inl (g 0, 10, .inl f_5))] H := hP
  have hD : va_D A [(pt, .inr (5, [.int pt_shift, .int pt_purse, .ref pt_cells, .ref pt_hurts, .ref pt_planMiners, .ref pt_planPlaces, .ref pt_sold, .ref pt_tubCounts])), (pt_tubCounts, .inl (g 0, 10, .inl f_5))] := hD
  refine W.widen (k := 0) (n := 0) (Nat.le_of_ble_eq_true rfl) (Nat.le_of_ble_eq_true rfl) ?_
  exact dk_vret hx hb hr hlocks hP hD hS f_5 [0, 1] rfl (by decide) ⟨jf_5, trivial⟩ dX5_addTub_19
set_option maxHeartbeats 8000000 in
set_option maxRecDepth 100000 in
theorem c_p_changeRows (l : Launch) (g : Nat → ClassId) (D : va_G) (pr : Int32) (pt : Nat) (pt_shift : Int32) (pt_purse : Int32) (pt_cells : Nat) (pt_hurts : Nat) (pt_planMiners : Nat) (pt_planPlaces : Nat) (pt_sold : Nat) (pt_tubCounts : Nat) (ptf_planMiners : Nat → Int32) (ptf_planPlaces : Nat → Int32) (a1 : Int32) (a2 : Int32) (b_pt_shift : 0 ≤ (pt_shift).toInt ∧ (pt_shift).toInt ≤ 999) (b_pt_purse : 0 ≤ (pt_purse).toInt ∧ (pt_purse).toInt ≤ 99999) (b_ptf_planMiners : dk_all 16 ptf_planMiners 0 5) (b_ptf_planPlaces : dk_row 16 ptf_planPlaces (dk_Ppl pr)) (b_a1 : 0 ≤ (a1).toInt ∧ (a1).toInt ≤ 15) (b_a2 : 0 ≤ (a2).toInt ∧ (a2).toInt ≤ 15) (x_ch : ((a1).toInt < (pr).toInt ∧ (a2).toInt < (pr).toInt) ∨ (a1).toInt = (a2).toInt) (sz : Nat) : Met l yX5_changeRows wsX5_changeRows ({ frames := 1, cells := 0, slots := 0, locals := 32 } : Room) (dk_Pc g D [(pt, .inr (5, [.int pt_shift, .int pt_purse, .ref pt_cells, .ref pt_hurts, .ref pt_planMiners, .ref pt_planPlaces, .ref pt_sold, .ref pt_tubCounts])), (pt_planMiners, .inl (g 0, 16, .inl ptf_planMiners)), (pt_planPlaces, .inl (g 0, 16, .inl ptf_planPlaces))] sz [.ref pt, .int a1, .int a2]) (va_Qv (fun (u : (Nat → Int32) × (Nat → Int32)) => dk_all 16 u.1 0 5 ∧ dk_row 16 u.2 (dk_Ppl pr) ∧ True) (dk_B D (va_A [(pt, .inr (5, [.int pt_shift, .int pt_purse, .ref pt_cells, .ref pt_hurts, .ref pt_planMiners, .ref pt_planPlaces, .ref pt_sold, .ref pt_tubCounts])), (pt_planMiners, .inl (g 0, 16, .inl ptf_planMiners)), (pt_planPlaces, .inl (g 0, 16, .inl ptf_planPlaces))] sz) (fun (u : (Nat → Int32) × (Nat → Int32)) => [(pt, .inr (5, [.int pt_shift, .int pt_purse, .ref pt_cells, .ref pt_hurts, .ref pt_planMiners, .ref pt_planPlaces, .ref pt_sold, .ref pt_tubCounts])), (pt_planMiners, .inl (g 0, 16, .inl u.1)), (pt_planPlaces, .inl (g 0, 16, .inl u.2))])) (va_A [(pt, .inr (5, [.int pt_shift, .int pt_purse, .ref pt_cells, .ref pt_hurts, .ref pt_planMiners, .ref pt_planPlaces, .ref pt_sold, .ref pt_tubCounts])), (pt_planMiners, .inl (g 0, 16, .inl ptf_planMiners)), (pt_planPlaces, .inl (g 0, 16, .inl ptf_planPlaces))] sz)) 0 0 (va_A [(pt, .inr (5, [.int pt_shift, .int pt_purse, .ref pt_cells, .ref pt_hurts, .ref pt_planMiners, .ref pt_planPlaces, .ref pt_sold, .ref pt_tubCounts])), (pt_planMiners, .inl (g 0, 16, .inl ptf_planMiners)), (pt_planPlaces, .inl (g 0, 16, .inl ptf_planPlaces))] sz) := by
  refine dk_met (cc := cX5_changeRows) (maxL := 5) (ret := none) (by decide) rfl (Nat.le_of_ble_eq_true rfl) ?_
  intro p e s m args below meth c harg hx hb hr hml hts hown hlocks hin hP K hD hS hA ST hsz ls hl
  subst hsz
  generalize va_A [(pt, .inr (5, [.int pt_shift, .int pt_purse, .ref pt_cells, .ref pt_hurts, .ref pt_planMiners, .ref pt_planPlaces, .ref pt_sold, .ref pt_tubCounts])), (pt_planMiners, .inl (g 0, 16, .inl ptf_planMiners)), (pt_planPlaces, .inl (g 0, 16, .inl ptf_planPlaces))] s.heap.size = A at hD hS hA ST ⊢
  have F : CallFix p m c cX5_changeRows 5 s args wsX5_changeRows RX5 := ⟨hx, hb, hml, hown, hts⟩
  have hl : lv_has ls 5 [(0, .ref pt), (1, .int a1), (2, .int a2)] := hl
  have iX5 : ∀ w ∈ wsX50, w ∈ wsX5_changeRows := fun _ h => List.mem_cons_of_mem _ (List.mem_append_right _ h)
  refine lv_aload_n hx hb dX5_changeRows_0 rfl (lv_at hl 0 rfl) ?_
  refine va_get (C := RX5) (T := TX5) (N := 8) hx hb hts iX5 hown K.1 hP 0 rfl rfl 4 (by decide) (hts (.fieldLink RX5 18 "DarkMine$Pit" "planMiners" "[I") (by decide +kernel)) (fun _ h9 => h9) (v := .ref pt_planMiners) rfl dX5_changeRows_1 ?_
  refine lv_iload_n hx hb dX5_changeRows_4 rfl (lv_at hl 1 rfl) ?_
  have hin_2 : vp_in a1 16 := (dk_inv (by omega) (by omega))
  refine dk_iald hx hb K hP 1 rfl hin_2 rfl dX5_changeRows_5 ?_
  refine lv_topi (fun x_1 ex_1 => ?_)
  have jx_1 := dk_all_at b_ptf_planMiners hin_2 ex_1
  refine lv_istore_n (lv' := [(3, .int x_1), (0, .ref pt), (1, .int a1), (2, .int a2)]) hx hb dX5_changeRows_6 rfl hl (by decide) rfl (fun ls hl => ?_)
  refine lv_aload_n hx hb dX5_changeRows_7 rfl (lv_at hl 1 rfl) ?_
  refine va_get (C := RX5) (T := TX5) (N := 8) hx hb hts iX5 hown K.1 hP 0 rfl rfl 5 (by decide) (hts (.fieldLink RX5 21 "DarkMine$Pit" "planPlaces" "[I") (by decide +kernel)) (fun _ h9 => h9) (v := .ref pt_planPlaces) rfl dX5_changeRows_8 ?_
  refine lv_iload_n hx hb dX5_changeRows_11 rfl (lv_at hl 2 rfl) ?_
  have hin_4 : vp_in a1 16 := (dk_inv (by omega) (by omega))
  refine dk_iald hx hb K hP 2 rfl hin_4 rfl dX5_changeRows_12 ?_
  refine lv_topi (fun x_3 ex_3 => ?_)
  have jx_3 : 0 ≤ (x_3).toInt ∧ (x_3).toInt ≤ 63 ∧ ((a1 : Int32).toInt < (pr : Int32).toInt → 8 ≤ (x_3).toInt) := dk_row_at b_ptf_planPlaces hin_4 ex_3
  refine lv_istore (lv' := [(4, .int x_3), (3, .int x_1), (0, .ref pt), (1, .int a1), (2, .int a2)]) hx hb dX5_changeRows_13 hl (by decide) rfl (fun ls hl => ?_)
  refine lv_aload_n hx hb dX5_changeRows_15 rfl (lv_at hl 2 rfl) ?_
  refine va_get (C := RX5) (T := TX5) (N := 8) hx hb hts iX5 hown K.1 hP 0 rfl rfl 4 (by decide) (hts (.fieldLink RX5 18 "DarkMine$Pit" "planMiners" "[I") (by decide +kernel)) (fun _ h9 => h9) (v := .ref pt_planMiners) rfl dX5_changeRows_16 ?_
  refine lv_iload_n hx hb dX5_changeRows_19 rfl (lv_at hl 3 rfl) ?_
  refine lv_aload_n hx hb dX5_changeRows_20 rfl (lv_at hl 2 rfl) ?_
  refine va_get (C := RX5) (T := TX5) (N := 8) hx hb hts iX5 hown K.1 hP 0 rfl rfl 4 (by decide) (hts (.fieldLink RX5 18 "DarkMine$Pit" "planMiners" "[I") (by decide +kernel)) (fun _ h9 => h9) (v := .ref pt_planMiners) rfl dX5_changeRows_21 ?_
  refine lv_iload_n hx hb dX5_changeRows_24 rfl (lv_at hl 4 rfl) ?_
  have hin_6 : vp_in a2 16 := (dk_inv (by omega) (by omega))
  refine dk_iald hx hb K hP 1 rfl hin_6 rfl dX5_changeRows_25 ?_
  refine lv_topi (fun x_5 ex_5 => ?_)
  have jx_5 := dk_all_at b_ptf_planMiners hin_6 ex_5
  obtain ⟨f_7, hf_7⟩ : ∃ f', f' = upd ptf_planMiners (a1 : Int32).toNatClampNeg x_5 := ⟨_, rfl⟩
  have hin_8 : vp_in a1 16 := (dk_inv (by omega) (by omega))
  have jf_7 := dk_all_upd b_ptf_planMiners _ (show 0 ≤ (x_5).toInt ∧ (x_5).toInt ≤ 5 from (by omega)) hf_7
  refine dk_iast hx hb K hP hD hS 1 rfl f_7 (fun _ _ => by rw [hf_7]) hin_8 dX5_changeRows_26 (fun H locs hP hD hS => ?_)
  have hP : va_P D vwCl [(pt, .inr (5, [.int pt_shift, .int pt_purse, .ref pt_cells, .ref pt_hurts, .ref pt_planMiners, .ref pt_planPlaces, .ref pt_sold, .ref pt_tubCounts])), (pt_planMiners, .inl (g 0, 16, .inl f_7)), (pt_planPlaces, .inl (g 0, 16, .inl ptf_planPlaces))] H := hP
  have hD : va_D A [(pt, .inr (5, [.int pt_shift, .int pt_purse, .ref pt_cells, .ref pt_hurts, .ref pt_planMiners, .ref pt_planPlaces, .ref pt_sold, .ref pt_tubCounts])), (pt_planMiners, .inl (g 0, 16, .inl f_7)), (pt_planPlaces, .inl (g 0, 16, .inl ptf_planPlaces))] := hD
  refine lv_aload_n hx hb dX5_changeRows_27 rfl (lv_at hl 2 rfl) ?_
  refine va_get (C := RX5) (T := TX5) (N := 8) hx hb hts iX5 hown K.1 hP 0 rfl rfl 5 (by decide) (hts (.fieldLink RX5 21 "DarkMine$Pit" "planPlaces" "[I") (by decide +kernel)) (fun _ h9 => h9) (v := .ref pt_planPlaces) rfl dX5_changeRows_28 ?_
  refine lv_iload_n hx hb dX5_changeRows_31 rfl (lv_at hl 3 rfl) ?_
  refine lv_aload_n hx hb dX5_changeRows_32 rfl (lv_at hl 2 rfl) ?_
  refine va_get (C := RX5) (T := TX5) (N := 8) hx hb hts iX5 hown K.1 hP 0 rfl rfl 5 (by decide) (hts (.fieldLink RX5 21 "DarkMine$Pit" "planPlaces" "[I") (by decide +kernel)) (fun _ h9 => h9) (v := .ref pt_planPlaces) rfl dX5_changeRows_33 ?_
  refine lv_iload_n hx hb dX5_changeRows_36 rfl (lv_at hl 4 rfl) ?_
  have hin_10 : vp_in a2 16 := (dk_inv (by omega) (by omega))
  refine dk_iald hx hb K hP 2 rfl hin_10 rfl dX5_changeRows_37 ?_
  refine lv_topi (fun x_9 ex_9 => ?_)
  have jx_9 : 0 ≤ (x_9).toInt ∧ (x_9).toInt ≤ 63 ∧ ((a2 : Int32).toInt < (pr : Int32).toInt → 8 ≤ (x_9).toInt) := dk_row_at b_ptf_planPlaces hin_10 ex_9
  obtain ⟨f_11, hf_11⟩ : ∃ f', f' = upd ptf_planPlaces (a1 : Int32).toNatClampNeg x_9 := ⟨_, rfl⟩
  have hin_12 : vp_in a1 16 := (dk_inv (by omega) (by omega))
  have jf_11 : dk_row 16 f_11 (dk_Ppl pr) := dk_row_upd b_ptf_planPlaces hin_12 (show 0 ≤ (x_9).toInt ∧ (x_9).toInt ≤ 63 ∧ ((a1 : Int32).toInt < (pr : Int32).toInt → 8 ≤ (x_9).toInt) from by omega) hf_11
  refine dk_iast hx hb K hP hD hS 2 rfl f_11 (fun _ _ => by rw [hf_11]) hin_12 dX5_changeRows_38 (fun H locs hP hD hS => ?_)
  have hP : va_P D vwCl [(pt, .inr (5, [.int pt_shift, .int pt_purse, .ref pt_cells, .ref pt_hurts, .ref pt_planMiners, .ref pt_planPlaces, .ref pt_sold, .ref pt_tubCounts])), (pt_planMiners, .inl (g 0, 16, .inl f_7)), (pt_planPlaces, .inl (g 0, 16, .inl f_11))] H := hP
  have hD : va_D A [(pt, .inr (5, [.int pt_shift, .int pt_purse, .ref pt_cells, .ref pt_hurts, .ref pt_planMiners, .ref pt_planPlaces, .ref pt_sold, .ref pt_tubCounts])), (pt_planMiners, .inl (g 0, 16, .inl f_7)), (pt_planPlaces, .inl (g 0, 16, .inl f_11))] := hD
  refine lv_aload_n hx hb dX5_changeRows_39 rfl (lv_at hl 2 rfl) ?_
  refine va_get (C := RX5) (T := TX5) (N := 8) hx hb hts iX5 hown K.1 hP 0 rfl rfl 4 (by decide) (hts (.fieldLink RX5 18 "DarkMine$Pit" "planMiners" "[I") (by decide +kernel)) (fun _ h9 => h9) (v := .ref pt_planMiners) rfl dX5_changeRows_40 ?_
  refine lv_iload_n hx hb dX5_changeRows_43 rfl (lv_at hl 4 rfl) ?_
  refine lv_iload_n hx hb dX5_changeRows_44 rfl (lv_at hl 1 rfl) ?_
  obtain ⟨f_13, hf_13⟩ : ∃ f', f' = upd f_7 (a2 : Int32).toNatClampNeg x_1 := ⟨_, rfl⟩
  have hin_14 : vp_in a2 16 := (dk_inv (by omega) (by omega))
  have jf_13 := dk_all_upd jf_7 _ (show 0 ≤ (x_1).toInt ∧ (x_1).toInt ≤ 5 from (by omega)) hf_13
  refine dk_iast hx hb K hP hD hS 1 rfl f_13 (fun _ _ => by rw [hf_13]) hin_14 dX5_changeRows_45 (fun H locs hP hD hS => ?_)
  have hP : va_P D vwCl [(pt, .inr (5, [.int pt_shift, .int pt_purse, .ref pt_cells, .ref pt_hurts, .ref pt_planMiners, .ref pt_planPlaces, .ref pt_sold, .ref pt_tubCounts])), (pt_planMiners, .inl (g 0, 16, .inl f_13)), (pt_planPlaces, .inl (g 0, 16, .inl f_11))] H := hP
  have hD : va_D A [(pt, .inr (5, [.int pt_shift, .int pt_purse, .ref pt_cells, .ref pt_hurts, .ref pt_planMiners, .ref pt_planPlaces, .ref pt_sold, .ref pt_tubCounts])), (pt_planMiners, .inl (g 0, 16, .inl f_13)), (pt_planPlaces, .inl (g 0, 16, .inl f_11))] := hD
  refine lv_aload_n hx hb dX5_changeRows_46 rfl (lv_at hl 2 rfl) ?_
  refine va_get (C := RX5) (T := TX5) (N := 8) hx hb hts iX5 hown K.1 hP 0 rfl rfl 5 (by decide) (hts (.fieldLink RX5 21 "DarkMine$Pit" "planPlaces" "[I") (by decide +kernel)) (fun _ h9 => h9) (v := .ref pt_planPlaces) rfl dX5_changeRows_47 ?_
  refine lv_iload_n hx hb dX5_changeRows_50 rfl (lv_at hl 4 rfl) ?_
  refine lv_iload hx hb dX5_changeRows_51 (lv_at hl 0 rfl) ?_
  obtain ⟨f_15, hf_15⟩ : ∃ f', f' = upd f_11 (a2 : Int32).toNatClampNeg x_3 := ⟨_, rfl⟩
  have hin_16 : vp_in a2 16 := (dk_inv (by omega) (by omega))
  have jf_15 : dk_row 16 f_15 (dk_Ppl pr) := dk_row_upd jf_11 hin_16 (show 0 ≤ (x_3).toInt ∧ (x_3).toInt ≤ 63 ∧ ((a2 : Int32).toInt < (pr : Int32).toInt → 8 ≤ (x_3).toInt) from by omega) hf_15
  refine dk_iast hx hb K hP hD hS 2 rfl f_15 (fun _ _ => by rw [hf_15]) hin_16 dX5_changeRows_53 (fun H locs hP hD hS => ?_)
  have hP : va_P D vwCl [(pt, .inr (5, [.int pt_shift, .int pt_purse, .ref pt_cells, .ref pt_hurts, .ref pt_planMiners, .ref pt_planPlaces, .ref pt_sold, .ref pt_tubCounts])), (pt_planMiners, .inl (g 0, 16, .inl f_13)), (pt_planPlaces, .inl (g 0, 16, .inl f_15))] H := hP
  have hD : va_D A [(pt, .inr (5, [.int pt_shift, .int pt_purse, .ref pt_cells, .ref pt_hurts, .ref pt_planMiners, .ref pt_planPlaces, .ref pt_sold, .ref pt_tubCounts])), (pt_planMiners, .inl (g 0, 16, .inl f_13)), (pt_planPlaces, .inl (g 0, 16, .inl f_15))] := hD
  refine W.widen (k := 0) (n := 0) (Nat.le_of_ble_eq_true rfl) (Nat.le_of_ble_eq_true rfl) ?_
  exact dk_vret hx hb hr hlocks hP hD hS ⟨f_13, f_15⟩ [0, 1, 2] rfl (by decide) ⟨jf_13, jf_15, trivial⟩ dX5_changeRows_54
set_option maxHeartbeats 8000000 in
set_option maxRecDepth 100000 in
theorem c_p_tubsFrom (l : Launch) (g : Nat → ClassId) (D : va_G) (pt : Nat) (pt_shift : Int32) (pt_purse : Int32) (pt_cells : Nat) (pt_hurts : Nat) (pt_planMiners : Nat) (pt_planPlaces : Nat) (pt_sold : Nat) (pt_tubCounts : Nat) (ptf_tubCounts : Nat → Int32) (a1 : Int32) (b_pt_shift : 0 ≤ (pt_shift).toInt ∧ (pt_shift).toInt ≤ 999) (b_pt_purse : 0 ≤ (pt_purse).toInt ∧ (pt_purse).toInt ≤ 99999) (b_ptf_tubCounts : dk_all 10 ptf_tubCounts 0 99) (b_a1 : 0 ≤ (a1).toInt ∧ (a1).toInt ≤ 9) (sz : Nat) : Met l yX5_tubsFrom wsX5_tubsFrom ({ frames := 1, cells := 0, slots := 0, locals := 32 } : Room) (dk_Pc g D [(pt, .inr (5, [.int pt_shift, .int pt_purse, .ref pt_cells, .ref pt_hurts, .ref pt_planMiners, .ref pt_planPlaces, .ref pt_sold, .ref pt_tubCounts])), (pt_tubCounts, .inl (g 0, 10, .inl ptf_tubCounts))] sz [.ref pt, .int a1]) (va_Qi (fun (r : Int32) (_ : Unit) => (0 ≤ (r).toInt ∧ (r).toInt ≤ 990) ∧ True) (dk_B D (va_A [(pt, .inr (5, [.int pt_shift, .int pt_purse, .ref pt_cells, .ref pt_hurts, .ref pt_planMiners, .ref pt_planPlaces, .ref pt_sold, .ref pt_tubCounts])), (pt_tubCounts, .inl (g 0, 10, .inl ptf_tubCounts))] sz) (fun (_ : Unit) => [(pt, .inr (5, [.int pt_shift, .int pt_purse, .ref pt_cells, .ref pt_hurts, .ref pt_planMiners, .ref pt_planPlaces, .ref pt_sold, .ref pt_tubCounts])), (pt_tubCounts, .inl (g 0, 10, .inl ptf_tubCounts))])) (va_A [(pt, .inr (5, [.int pt_shift, .int pt_purse, .ref pt_cells, .ref pt_hurts, .ref pt_planMiners, .ref pt_planPlaces, .ref pt_sold, .ref pt_tubCounts])), (pt_tubCounts, .inl (g 0, 10, .inl ptf_tubCounts))] sz)) 0 0 (va_A [(pt, .inr (5, [.int pt_shift, .int pt_purse, .ref pt_cells, .ref pt_hurts, .ref pt_planMiners, .ref pt_planPlaces, .ref pt_sold, .ref pt_tubCounts])), (pt_tubCounts, .inl (g 0, 10, .inl ptf_tubCounts))] sz) := by
  refine dk_met (cc := cX5_tubsFrom) (maxL := 4) (ret := (some .int)) (by decide) rfl (Nat.le_of_ble_eq_true rfl) ?_
  intro p e s m args below meth c harg hx hb hr hml hts hown hlocks hin hP K hD hS hA ST hsz ls hl
  subst hsz
  generalize va_A [(pt, .inr (5, [.int pt_shift, .int pt_purse, .ref pt_cells, .ref pt_hurts, .ref pt_planMiners, .ref pt_planPlaces, .ref pt_sold, .ref pt_tubCounts])), (pt_tubCounts, .inl (g 0, 10, .inl ptf_tubCounts))] s.heap.size = A at hD hS hA ST ⊢
  have F : CallFix p m c cX5_tubsFrom 4 s args wsX5_tubsFrom RX5 := ⟨hx, hb, hml, hown, hts⟩
  have hl : lv_has ls 4 [(0, .ref pt), (1, .int a1)] := hl
  have iX5 : ∀ w ∈ wsX50, w ∈ wsX5_tubsFrom := fun _ h => List.mem_cons_of_mem _ (List.mem_append_right _ h)
  refine lv_iconst (v := 0) hx hb dX5_tubsFrom_0 (by decide +kernel) ?_
  refine lv_istore_n (lv' := [(2, .int 0), (0, .ref pt), (1, .int a1)]) hx hb dX5_tubsFrom_1 rfl hl (by decide) rfl (fun ls hl => ?_)
  refine lv_iload_n hx hb dX5_tubsFrom_2 rfl (lv_at hl 2 rfl) ?_
  refine lv_istore_n (lv' := [(3, .int a1), (2, .int 0), (0, .ref pt), (1, .int a1)]) hx hb dX5_tubsFrom_3 rfl hl (by decide) rfl (fun ls hl => ?_)
  have hz_4 : (0 : Int32).toInt = 0 := by decide +kernel
  have loop_2 : ∀ (n : Nat) (i_1 : Int32) (x_3 : Int32), 0 ≤ (i_1).toInt → (0 ≤ (x_3).toInt ∧ (x_3).toInt ≤ 990) → ((x_3).toInt ≤ 99 * (i_1).toInt) → 10 - (i_1).toInt = (n : Int) → ∀ (H : Heap) (locs : List Loc), va_P D vwCl [(pt, .inr (5, [.int pt_shift, .int pt_purse, .ref pt_cells, .ref pt_hurts, .ref pt_planMiners, .ref pt_planPlaces, .ref pt_sold, .ref pt_tubCounts])), (pt_tubCounts, .inl (g 0, 10, .inl ptf_tubCounts))] H → va_D A [(pt, .inr (5, [.int pt_shift, .int pt_purse, .ref pt_cells, .ref pt_hurts, .ref pt_planMiners, .ref pt_planPlaces, .ref pt_sold, .ref pt_tubCounts])), (pt_tubCounts, .inl (g 0, 10, .inl ptf_tubCounts))] → va_S A s.heap H locs → ∀ ls : Array Slot, lv_has ls 4 [(3, .int i_1), (2, .int x_3), (0, .ref pt), (1, .int a1)] → W p l e ({ frames := 1, cells := 0, slots := 0, locals := 32 } : Room) s m args below meth c H locs (0) (0) (MQ below (va_Qi (fun (r : Int32) (_ : Unit) => (0 ≤ (r).toInt ∧ (r).toInt ≤ 990) ∧ True) (dk_B D A (fun (_ : Unit) => [(pt, .inr (5, [.int pt_shift, .int pt_purse, .ref pt_cells, .ref pt_hurts, .ref pt_planMiners, .ref pt_planPlaces, .ref pt_sold, .ref pt_tubCounts])), (pt_tubCounts, .inl (g 0, 10, .inl ptf_tubCounts))])) A) args s 0 0 A) (F0 m 4 ls []) := by
    intro n
    induction n with
    | zero =>
      intro i_1 x_3 blo_i_1 b_x_3 b_rel1 hm H locs hP hD hS ls hl
      refine lv_iload_n hx hb dX5_tubsFrom_4 rfl (lv_at hl 0 rfl) ?_
      refine lv_bipush (v := 9) hx hb dX5_tubsFrom_5 (by decide +kernel) ?_
      refine lv_icmp_gt (tgt := 25) hx hb dX5_tubsFrom_7 (by decide) (fun _ => ?_) (fun c => absurd (dk_gtp (k := 9) (by decide +kernel) (by omega)) c)
      refine lv_iload_n hx hb dX5_tubsFrom_25 rfl (lv_at hl 1 rfl) ?_
      refine W.widen (k := 0) (n := 0) (Nat.le_of_ble_eq_true rfl) (Nat.le_of_ble_eq_true rfl) ?_
      exact dk_iret hx hb hr hlocks rfl hP hD hS () [0, 1] rfl (by decide) ⟨(by omega), trivial⟩ dX5_tubsFrom_26
    | succ n ih =>
      intro i_1 x_3 blo_i_1 b_x_3 b_rel1 hm H locs hP hD hS ls hl
      refine lv_iload_n hx hb dX5_tubsFrom_4 rfl (lv_at hl 0 rfl) ?_
      refine lv_bipush (v := 9) hx hb dX5_tubsFrom_5 (by decide +kernel) ?_
      refine lv_icmp_gt (tgt := 25) hx hb dX5_tubsFrom_7 (by decide) (fun c => absurd c (fun z => absurd (dk_gtc (k := 9) (by decide +kernel) z) (by omega))) (fun _ => ?_)
      refine lv_iload_n hx hb dX5_tubsFrom_10 rfl (lv_at hl 1 rfl) ?_
      refine lv_aload_n hx hb dX5_tubsFrom_11 rfl (lv_at hl 2 rfl) ?_
      refine va_get (C := RX5) (T := TX5) (N := 8) hx hb hts iX5 hown K.1 hP 0 rfl rfl 7 (by decide) (hts (.fieldLink RX5 27 "DarkMine$Pit" "tubCounts" "[I") (by decide +kernel)) (fun _ h9 => h9) (v := .ref pt_tubCounts) rfl dX5_tubsFrom_12 ?_
      refine lv_iload_n hx hb dX5_tubsFrom_15 rfl (lv_at hl 0 rfl) ?_
      have hin_6 : vp_in i_1 10 := (dk_inv (by omega) (by omega))
      refine dk_iald hx hb K hP 1 rfl hin_6 rfl dX5_tubsFrom_16 ?_
      refine lv_topi (fun x_5 ex_5 => ?_)
      have jx_5 := dk_all_at b_ptf_tubCounts hin_6 ex_5
      refine lv_iadd hx hb dX5_tubsFrom_17 ?_
      refine lv_topi (fun x_7 ex_7 => ?_)
      have jx_7 : (x_7).toInt = (x_3).toInt + (x_5).toInt := by rw [ex_7]; exact dk_addT rfl rfl (by omega) (by omega)
      refine lv_istore_n (lv' := [(2, .int x_7), (3, .int i_1), (0, .ref pt), (1, .int a1)]) hx hb dX5_tubsFrom_18 rfl hl (by decide) rfl (fun ls hl => ?_)
      obtain ⟨x_8, ex_8⟩ : ∃ z, z = i_1 + 1 := ⟨_, rfl⟩
      have jx_8 : (x_8).toInt = (i_1).toInt + 1 := by rw [ex_8]; exact dk_addT rfl (by decide +kernel) (by omega) (by omega)
      refine lv_iinc (v := x_8) (lv' := [(3, .int x_8), (2, .int x_7), (0, .ref pt), (1, .int a1)]) hx hb dX5_tubsFrom_19 hl (k := 1) rfl (by rw [ex_8]; rfl) (by decide) rfl (fun ls hl => ?_)
      refine lv_goto (tgt := 4) hx hb dX5_tubsFrom_22 (by decide) ?_
      have hP := hP.sub (ws' := [(pt, .inr (5, [.int pt_shift, .int pt_purse, .ref pt_cells, .ref pt_hurts, .ref pt_planMiners, .ref pt_planPlaces, .ref pt_sold, .ref pt_tubCounts])), (pt_tubCounts, .inl (g 0, 10, .inl ptf_tubCounts))]) [0, 1] rfl
      have hD := hD.sub (ws' := [(pt, .inr (5, [.int pt_shift, .int pt_purse, .ref pt_cells, .ref pt_hurts, .ref pt_planMiners, .ref pt_planPlaces, .ref pt_sold, .ref pt_tubCounts])), (pt_tubCounts, .inl (g 0, 10, .inl ptf_tubCounts))]) [0, 1] (by decide) rfl
      exact ih x_8 x_7 (by omega) (by omega) (by omega) (by omega) _ _ hP hD hS _ (lv_sub hl [0, 1, 2, 3] rfl)
  exact loop_2 ((10 : Int) - (a1).toInt).toNat a1 0 (by omega) (by omega) (by omega) (by omega) _ _ hP hD hS _ (lv_sub hl [0, 1, 2, 3] rfl)
set_option maxHeartbeats 8000000 in
set_option maxRecDepth 100000 in
theorem c_p_tubGrades (l : Launch) (g : Nat → ClassId) (D : va_G) (pt : Nat) (pt_shift : Int32) (pt_purse : Int32) (pt_cells : Nat) (pt_hurts : Nat) (pt_planMiners : Nat) (pt_planPlaces : Nat) (pt_sold : Nat) (pt_tubCounts : Nat) (ptf_tubCounts : Nat → Int32) (b_pt_shift : 0 ≤ (pt_shift).toInt ∧ (pt_shift).toInt ≤ 999) (b_pt_purse : 0 ≤ (pt_purse).toInt ∧ (pt_purse).toInt ≤ 99999) (b_ptf_tubCounts : dk_all 10 ptf_tubCounts 0 99) (sz : Nat) : Met l yX5_tubGrades wsX5_tubGrades ({ frames := 1, cells := 0, slots := 0, locals := 32 } : Room) (dk_Pc g D [(pt, .inr (5, [.int pt_shift, .int pt_purse, .ref pt_cells, .ref pt_hurts, .ref pt_planMiners, .ref pt_planPlaces, .ref pt_sold, .ref pt_tubCounts])), (pt_tubCounts, .inl (g 0, 10, .inl ptf_tubCounts))] sz [.ref pt]) (va_Qi (fun (r : Int32) (_ : Unit) => (0 ≤ (r).toInt ∧ (r).toInt ≤ 8910) ∧ True) (dk_B D (va_A [(pt, .inr (5, [.int pt_shift, .int pt_purse, .ref pt_cells, .ref pt_hurts, .ref pt_planMiners, .ref pt_planPlaces, .ref pt_sold, .ref pt_tubCounts])), (pt_tubCounts, .inl (g 0, 10, .inl ptf_tubCounts))] sz) (fun (_ : Unit) => [(pt, .inr (5, [.int pt_shift, .int pt_purse, .ref pt_cells, .ref pt_hurts, .ref pt_planMiners, .ref pt_planPlaces, .ref pt_sold, .ref pt_tubCounts])), (pt_tubCounts, .inl (g 0, 10, .inl ptf_tubCounts))])) (va_A [(pt, .inr (5, [.int pt_shift, .int pt_purse, .ref pt_cells, .ref pt_hurts, .ref pt_planMiners, .ref pt_planPlaces, .ref pt_sold, .ref pt_tubCounts])), (pt_tubCounts, .inl (g 0, 10, .inl ptf_tubCounts))] sz)) 0 0 (va_A [(pt, .inr (5, [.int pt_shift, .int pt_purse, .ref pt_cells, .ref pt_hurts, .ref pt_planMiners, .ref pt_planPlaces, .ref pt_sold, .ref pt_tubCounts])), (pt_tubCounts, .inl (g 0, 10, .inl ptf_tubCounts))] sz) := by
  refine dk_met (cc := cX5_tubGrades) (maxL := 3) (ret := (some .int)) (by decide) rfl (Nat.le_of_ble_eq_true rfl) ?_
  intro p e s m args below meth c harg hx hb hr hml hts hown hlocks hin hP K hD hS hA ST hsz ls hl
  subst hsz
  generalize va_A [(pt, .inr (5, [.int pt_shift, .int pt_purse, .ref pt_cells, .ref pt_hurts, .ref pt_planMiners, .ref pt_planPlaces, .ref pt_sold, .ref pt_tubCounts])), (pt_tubCounts, .inl (g 0, 10, .inl ptf_tubCounts))] s.heap.size = A at hD hS hA ST ⊢
  have F : CallFix p m c cX5_tubGrades 3 s args wsX5_tubGrades RX5 := ⟨hx, hb, hml, hown, hts⟩
  have hl : lv_has ls 3 [(0, .ref pt)] := hl
  have iX5 : ∀ w ∈ wsX50, w ∈ wsX5_tubGrades := fun _ h => List.mem_cons_of_mem _ (List.mem_append_right _ h)
  refine lv_iconst (v := 0) hx hb dX5_tubGrades_0 (by decide +kernel) ?_
  refine lv_istore_n (lv' := [(1, .int 0), (0, .ref pt)]) hx hb dX5_tubGrades_1 rfl hl (by decide) rfl (fun ls hl => ?_)
  refine lv_iconst (v := 0) hx hb dX5_tubGrades_2 (by decide +kernel) ?_
  refine lv_istore_n (lv' := [(2, .int 0), (1, .int 0), (0, .ref pt)]) hx hb dX5_tubGrades_3 rfl hl (by decide) rfl (fun ls hl => ?_)
  have hz_4 : (0 : Int32).toInt = 0 := by decide +kernel
  have loop_2 : ∀ (n : Nat) (i_1 : Int32) (x_3 : Int32), 0 ≤ (i_1).toInt → (0 ≤ (x_3).toInt ∧ (x_3).toInt ≤ 8910) → ((x_3).toInt ≤ 891 * (i_1).toInt) → 10 - (i_1).toInt = (n : Int) → ∀ (H : Heap) (locs : List Loc), va_P D vwCl [(pt, .inr (5, [.int pt_shift, .int pt_purse, .ref pt_cells, .ref pt_hurts, .ref pt_planMiners, .ref pt_planPlaces, .ref pt_sold, .ref pt_tubCounts])), (pt_tubCounts, .inl (g 0, 10, .inl ptf_tubCounts))] H → va_D A [(pt, .inr (5, [.int pt_shift, .int pt_purse, .ref pt_cells, .ref pt_hurts, .ref pt_planMiners, .ref pt_planPlaces, .ref pt_sold, .ref pt_tubCounts])), (pt_tubCounts, .inl (g 0, 10, .inl ptf_tubCounts))] → va_S A s.heap H locs → ∀ ls : Array Slot, lv_has ls 3 [(2, .int i_1), (1, .int x_3), (0, .ref pt)] → W p l e ({ frames := 1, cells := 0, slots := 0, locals := 32 } : Room) s m args below meth c H locs (0) (0) (MQ below (va_Qi (fun (r : Int32) (_ : Unit) => (0 ≤ (r).toInt ∧ (r).toInt ≤ 8910) ∧ True) (dk_B D A (fun (_ : Unit) => [(pt, .inr (5, [.int pt_shift, .int pt_purse, .ref pt_cells, .ref pt_hurts, .ref pt_planMiners, .ref pt_planPlaces, .ref pt_sold, .ref pt_tubCounts])), (pt_tubCounts, .inl (g 0, 10, .inl ptf_tubCounts))])) A) args s 0 0 A) (F0 m 4 ls []) := by
    intro n
    induction n with
    | zero =>
      intro i_1 x_3 blo_i_1 b_x_3 b_rel1 hm H locs hP hD hS ls hl
      refine lv_iload_n hx hb dX5_tubGrades_4 rfl (lv_at hl 0 rfl) ?_
      refine lv_bipush (v := 9) hx hb dX5_tubGrades_5 (by decide +kernel) ?_
      refine lv_icmp_gt (tgt := 27) hx hb dX5_tubGrades_7 (by decide) (fun _ => ?_) (fun c => absurd (dk_gtp (k := 9) (by decide +kernel) (by omega)) c)
      refine lv_iload_n hx hb dX5_tubGrades_27 rfl (lv_at hl 1 rfl) ?_
      refine W.widen (k := 0) (n := 0) (Nat.le_of_ble_eq_true rfl) (Nat.le_of_ble_eq_true rfl) ?_
      exact dk_iret hx hb hr hlocks rfl hP hD hS () [0, 1] rfl (by decide) ⟨(by omega), trivial⟩ dX5_tubGrades_28
    | succ n ih =>
      intro i_1 x_3 blo_i_1 b_x_3 b_rel1 hm H locs hP hD hS ls hl
      refine lv_iload_n hx hb dX5_tubGrades_4 rfl (lv_at hl 0 rfl) ?_
      refine lv_bipush (v := 9) hx hb dX5_tubGrades_5 (by decide +kernel) ?_
      refine lv_icmp_gt (tgt := 27) hx hb dX5_tubGrades_7 (by decide) (fun c => absurd c (fun z => absurd (dk_gtc (k := 9) (by decide +kernel) z) (by omega))) (fun _ => ?_)
      refine lv_iload_n hx hb dX5_tubGrades_10 rfl (lv_at hl 1 rfl) ?_
      refine lv_iload_n hx hb dX5_tubGrades_11 rfl (lv_at hl 0 rfl) ?_
      refine lv_aload_n hx hb dX5_tubGrades_12 rfl (lv_at hl 2 rfl) ?_
      refine va_get (C := RX5) (T := TX5) (N := 8) hx hb hts iX5 hown K.1 hP 0 rfl rfl 7 (by decide) (hts (.fieldLink RX5 27 "DarkMine$Pit" "tubCounts" "[I") (by decide +kernel)) (fun _ h9 => h9) (v := .ref pt_tubCounts) rfl dX5_tubGrades_13 ?_
      refine lv_iload_n hx hb dX5_tubGrades_16 rfl (lv_at hl 0 rfl) ?_
      have hin_6 : vp_in i_1 10 := (dk_inv (by omega) (by omega))
      refine dk_iald hx hb K hP 1 rfl hin_6 rfl dX5_tubGrades_17 ?_
      refine lv_topi (fun x_5 ex_5 => ?_)
      have jx_5 := dk_all_at b_ptf_tubCounts hin_6 ex_5
      refine lv_imul hx hb dX5_tubGrades_18 ?_
      refine lv_topi (fun x_7 ex_7 => ?_)
      have jx_7 := dk_mulB (x := i_1) (y := x_5) (A := 9) (B := 99) (by omega) (by omega) (by decide)
      rw [← ex_7] at jx_7
      refine lv_iadd hx hb dX5_tubGrades_19 ?_
      refine lv_topi (fun x_8 ex_8 => ?_)
      have jx_8 : (x_8).toInt = (x_3).toInt + (x_7).toInt := by rw [ex_8]; exact dk_addT rfl rfl (by omega) (by omega)
      refine lv_istore_n (lv' := [(1, .int x_8), (2, .int i_1), (0, .ref pt)]) hx hb dX5_tubGrades_20 rfl hl (by decide) rfl (fun ls hl => ?_)
      obtain ⟨x_9, ex_9⟩ : ∃ z, z = i_1 + 1 := ⟨_, rfl⟩
      have jx_9 : (x_9).toInt = (i_1).toInt + 1 := by rw [ex_9]; exact dk_addT rfl (by decide +kernel) (by omega) (by omega)
      refine lv_iinc (v := x_9) (lv' := [(2, .int x_9), (1, .int x_8), (0, .ref pt)]) hx hb dX5_tubGrades_21 hl (k := 1) rfl (by rw [ex_9]; rfl) (by decide) rfl (fun ls hl => ?_)
      refine lv_goto (tgt := 4) hx hb dX5_tubGrades_24 (by decide) ?_
      have hP := hP.sub (ws' := [(pt, .inr (5, [.int pt_shift, .int pt_purse, .ref pt_cells, .ref pt_hurts, .ref pt_planMiners, .ref pt_planPlaces, .ref pt_sold, .ref pt_tubCounts])), (pt_tubCounts, .inl (g 0, 10, .inl ptf_tubCounts))]) [0, 1] rfl
      have hD := hD.sub (ws' := [(pt, .inr (5, [.int pt_shift, .int pt_purse, .ref pt_cells, .ref pt_hurts, .ref pt_planMiners, .ref pt_planPlaces, .ref pt_sold, .ref pt_tubCounts])), (pt_tubCounts, .inl (g 0, 10, .inl ptf_tubCounts))]) [0, 1] (by decide) rfl
      exact ih x_9 x_8 (by omega) (by omega) (by omega) (by omega) _ _ hP hD hS _ (lv_sub hl [0, 1, 2] rfl)
  have hz_10 : (0 : Int32).toInt = 0 := by decide +kernel
  exact loop_2 ((10 : Int) - 0).toNat 0 0 (by omega) (by omega) (by omega) (by omega) _ _ hP hD hS _ (lv_sub hl [0, 1, 2] rfl)
set_option maxHeartbeats 8000000 in
set_option maxRecDepth 100000 in
theorem c_p_giveTubs (l : Launch) (g : Nat → ClassId) (D : va_G) (pt : Nat) (pt_shift : Int32) (pt_purse : Int32) (pt_cells : Nat) (pt_hurts : Nat) (pt_planMiners : Nat) (pt_planPlaces : Nat) (pt_sold : Nat) (pt_tubCounts : Nat) (ptf_tubCounts : Nat → Int32) (a1 : Int32) (a2 : Int32) (b_pt_shift : 0 ≤ (pt_shift).toInt ∧ (pt_shift).toInt ≤ 999) (b_pt_purse : 0 ≤ (pt_purse).toInt ∧ (pt_purse).toInt ≤ 99999) (b_ptf_tubCounts : dk_all 10 ptf_tubCounts 0 99) (b_a1 : 0 ≤ (a1).toInt ∧ (a1).toInt ≤ 9) (b_a2 : 0 ≤ (a2).toInt ∧ (a2).toInt ≤ 9) (sz : Nat) : Met l yX5_giveTubs wsX5_giveTubs ({ frames := 2, cells := 0, slots := 0, locals := 40 } : Room) (dk_Pc g D [(pt, .inr (5, [.int pt_shift, .int pt_purse, .ref pt_cells, .ref pt_hurts, .ref pt_planMiners, .ref pt_planPlaces, .ref pt_sold, .ref pt_tubCounts])), (pt_tubCounts, .inl (g 0, 10, .inl ptf_tubCounts))] sz [.ref pt, .int a1, .int a2]) (va_Qv (fun (u : (Nat → Int32)) => dk_all 10 u 0 99 ∧ True) (dk_B D (va_A [(pt, .inr (5, [.int pt_shift, .int pt_purse, .ref pt_cells, .ref pt_hurts, .ref pt_planMiners, .ref pt_planPlaces, .ref pt_sold, .ref pt_tubCounts])), (pt_tubCounts, .inl (g 0, 10, .inl ptf_tubCounts))] sz) (fun (u : (Nat → Int32)) => [(pt, .inr (5, [.int pt_shift, .int pt_purse, .ref pt_cells, .ref pt_hurts, .ref pt_planMiners, .ref pt_planPlaces, .ref pt_sold, .ref pt_tubCounts])), (pt_tubCounts, .inl (g 0, 10, .inl u))])) (va_A [(pt, .inr (5, [.int pt_shift, .int pt_purse, .ref pt_cells, .ref pt_hurts, .ref pt_planMiners, .ref pt_planPlaces, .ref pt_sold, .ref pt_tubCounts])), (pt_tubCounts, .inl (g 0, 10, .inl ptf_tubCounts))] sz)) 0 0 (va_A [(pt, .inr (5, [.int pt_shift, .int pt_purse, .ref pt_cells, .ref pt_hurts, .ref pt_planMiners, .ref pt_planPlaces, .ref pt_sold, .ref pt_tubCounts])), (pt_tubCounts, .inl (g 0, 10, .inl ptf_tubCounts))] sz) := by
  refine dk_met (cc := cX5_giveTubs) (maxL := 6) (ret := none) (by decide) rfl (Nat.le_of_ble_eq_true rfl) ?_
  intro p e s m args below meth c harg hx hb hr hml hts hown hlocks hin hP K hD hS hA ST hsz ls hl
  subst hsz
  generalize va_A [(pt, .inr (5, [.int pt_shift, .int pt_purse, .ref pt_cells, .ref pt_hurts, .ref pt_planMiners, .ref pt_planPlaces, .ref pt_sold, .ref pt_tubCounts])), (pt_tubCounts, .inl (g 0, 10, .inl ptf_tubCounts))] s.heap.size = A at hD hS hA ST ⊢
  have F : CallFix p m c cX5_giveTubs 6 s args wsX5_giveTubs RX5 := ⟨hx, hb, hml, hown, hts⟩
  have hl : lv_has ls 6 [(0, .ref pt), (1, .int a1), (2, .int a2)] := hl
  have iX5 : ∀ w ∈ wsX50, w ∈ wsX5_giveTubs := fun _ h => List.mem_cons_of_mem _ (List.mem_append_right _ h)
  refine lv_iload_n hx hb dX5_giveTubs_0 rfl (lv_at hl 2 rfl) ?_
  refine lv_istore_n (lv' := [(3, .int a2), (0, .ref pt), (1, .int a1), (2, .int a2)]) hx hb dX5_giveTubs_1 rfl hl (by decide) rfl (fun ls hl => ?_)
  refine lv_iload_n hx hb dX5_giveTubs_2 rfl (lv_at hl 2 rfl) ?_
  refine lv_istore (lv' := [(4, .int a1), (3, .int a2), (0, .ref pt), (1, .int a1), (2, .int a2)]) hx hb dX5_giveTubs_3 hl (by decide) rfl (fun ls hl => ?_)
  have loop_2 : ∀ (n : Nat) (i_1 : Int32) (x_3 : Int32) (f_4 : Nat → Int32), 0 ≤ (i_1).toInt → (0 ≤ (x_3).toInt ∧ (x_3).toInt ≤ 9) → (dk_all 10 f_4 0 99) → 10 - (i_1).toInt = (n : Int) → ∀ (H : Heap) (locs : List Loc), va_P D vwCl [(pt, .inr (5, [.int pt_shift, .int pt_purse, .ref pt_cells, .ref pt_hurts, .ref pt_planMiners, .ref pt_planPlaces, .ref pt_sold, .ref pt_tubCounts])), (pt_tubCounts, .inl (g 0, 10, .inl f_4))] H → va_D A [(pt, .inr (5, [.int pt_shift, .int pt_purse, .ref pt_cells, .ref pt_hurts, .ref pt_planMiners, .ref pt_planPlaces, .ref pt_sold, .ref pt_tubCounts])), (pt_tubCounts, .inl (g 0, 10, .inl f_4))] → va_S A s.heap H locs → ∀ ls : Array Slot, lv_has ls 6 [(4, .int i_1), (3, .int x_3), (0, .ref pt), (1, .int a1), (2, .int a2)] → W p l e ({ frames := 2, cells := 0, slots := 0, locals := 40 } : Room) s m args below meth c H locs (0) (0) (MQ below (va_Qv (fun (u : (Nat → Int32)) => dk_all 10 u 0 99 ∧ True) (dk_B D A (fun (u : (Nat → Int32)) => [(pt, .inr (5, [.int pt_shift, .int pt_purse, .ref pt_cells, .ref pt_hurts, .ref pt_planMiners, .ref pt_planPlaces, .ref pt_sold, .ref pt_tubCounts])), (pt_tubCounts, .inl (g 0, 10, .inl u))])) A) args s 0 0 A) (F0 m 5 ls []) := by
    intro n
    induction n with
    | zero =>
      intro i_1 x_3 f_4 blo_i_1 b_x_3 b_f_4 hm H locs hP hD hS ls hl
      refine lv_iload hx hb dX5_giveTubs_5 (lv_at hl 0 rfl) ?_
      refine lv_bipush (v := 9) hx hb dX5_giveTubs_7 (by decide +kernel) ?_
      refine lv_icmp_gt (tgt := 48) hx hb dX5_giveTubs_9 (by decide) (fun _ => ?_) (fun c => absurd (dk_gtp (k := 9) (by decide +kernel) (by omega)) c)
      refine W.widen (k := 0) (n := 0) (Nat.le_of_ble_eq_true rfl) (Nat.le_of_ble_eq_true rfl) ?_
      exact dk_vret hx hb hr hlocks hP hD hS f_4 [0, 1] rfl (by decide) ⟨b_f_4, trivial⟩ dX5_giveTubs_48
    | succ n ih =>
      intro i_1 x_3 f_4 blo_i_1 b_x_3 b_f_4 hm H locs hP hD hS ls hl
      refine lv_iload hx hb dX5_giveTubs_5 (lv_at hl 0 rfl) ?_
      refine lv_bipush (v := 9) hx hb dX5_giveTubs_7 (by decide +kernel) ?_
      refine lv_icmp_gt (tgt := 48) hx hb dX5_giveTubs_9 (by decide) (fun c => absurd c (fun z => absurd (dk_gtc (k := 9) (by decide +kernel) z) (by omega))) (fun _ => ?_)
      refine lv_iload_n hx hb dX5_giveTubs_12 rfl (lv_at hl 1 rfl) ?_
      refine lv_aload_n hx hb dX5_giveTubs_13 rfl (lv_at hl 2 rfl) ?_
      refine va_get (C := RX5) (T := TX5) (N := 8) hx hb hts iX5 hown K.1 hP 0 rfl rfl 7 (by decide) (hts (.fieldLink RX5 27 "DarkMine$Pit" "tubCounts" "[I") (by decide +kernel)) (fun _ h9 => h9) (v := .ref pt_tubCounts) rfl dX5_giveTubs_14 ?_
      refine lv_iload hx hb dX5_giveTubs_17 (lv_at hl 0 rfl) ?_
      have hin_6 : vp_in i_1 10 := (dk_inv (by omega) (by omega))
      refine dk_iald hx hb K hP 1 rfl hin_6 rfl dX5_giveTubs_19 ?_
      refine lv_topi (fun x_5 ex_5 => ?_)
      have jx_5 := dk_all_at b_f_4 hin_6 ex_5
      refine va_mmin hx hb (by rw [hml]; exact hl.1.symm) hown (hts (.methodLink RX5 83 Lib.Math.min.name) (by decide +kernel)) (hts (.static Lib.Math.min.name) (by decide +kernel)) (hts (.initialized "java/lang/Math") (by decide +kernel)) (hts _ (List.mem_of_getElem? (i := 5) rfl)) (Nat.le_of_ble_eq_true rfl) (Nat.le_of_ble_eq_true rfl) (Nat.le_of_ble_eq_true rfl) (Nat.le_of_ble_eq_true rfl) dX5_giveTubs_20 ?_
      refine lv_topi (fun x_7 ex_7 => ?_)
      have jx_7 := dk_minT (a := (x_3).toInt) (b := (x_5).toInt) rfl rfl ex_7
      refine lv_istore (lv' := [(5, .int x_7), (4, .int i_1), (3, .int x_3), (0, .ref pt), (1, .int a1), (2, .int a2)]) hx hb dX5_giveTubs_23 hl (by decide) rfl (fun ls hl => ?_)
      refine lv_aload_n hx hb dX5_giveTubs_25 rfl (lv_at hl 3 rfl) ?_
      refine va_get (C := RX5) (T := TX5) (N := 8) hx hb hts iX5 hown K.1 hP 0 rfl rfl 7 (by decide) (hts (.fieldLink RX5 27 "DarkMine$Pit" "tubCounts" "[I") (by decide +kernel)) (fun _ h9 => h9) (v := .ref pt_tubCounts) rfl dX5_giveTubs_26 ?_
      refine lv_iload hx hb dX5_giveTubs_29 (lv_at hl 1 rfl) ?_
      refine lv_dup2_11 hx hb dX5_giveTubs_31 rfl rfl ?_
      refine dk_iald hx hb K hP 1 rfl (dk_inv (by omega) (by omega)) (v := x_5) ex_5.symm dX5_giveTubs_32 ?_
      refine lv_iload hx hb dX5_giveTubs_33 (lv_at hl 0 rfl) ?_
      refine lv_isub hx hb dX5_giveTubs_35 ?_
      refine lv_topi (fun x_8 ex_8 => ?_)
      have jx_8 : (x_8).toInt = (x_5).toInt - (x_7).toInt := by rw [ex_8]; exact dk_subT rfl rfl (by omega) (by omega)
      obtain ⟨f_9, hf_9⟩ : ∃ f', f' = upd f_4 (i_1 : Int32).toNatClampNeg x_8 := ⟨_, rfl⟩
      have hin_10 : vp_in i_1 10 := (dk_inv (by omega) (by omega))
      have jf_9 := dk_all_upd b_f_4 _ (show 0 ≤ (x_8).toInt ∧ (x_8).toInt ≤ 99 from (by omega)) hf_9
      refine dk_iast hx hb K hP hD hS 1 rfl f_9 (fun _ _ => by rw [hf_9]) hin_10 dX5_giveTubs_36 (fun H locs hP hD hS => ?_)
      have hP : va_P D vwCl [(pt, .inr (5, [.int pt_shift, .int pt_purse, .ref pt_cells, .ref pt_hurts, .ref pt_planMiners, .ref pt_planPlaces, .ref pt_sold, .ref pt_tubCounts])), (pt_tubCounts, .inl (g 0, 10, .inl f_9))] H := hP
      have hD : va_D A [(pt, .inr (5, [.int pt_shift, .int pt_purse, .ref pt_cells, .ref pt_hurts, .ref pt_planMiners, .ref pt_planPlaces, .ref pt_sold, .ref pt_tubCounts])), (pt_tubCounts, .inl (g 0, 10, .inl f_9))] := hD
      refine lv_iload_n hx hb dX5_giveTubs_37 rfl (lv_at hl 2 rfl) ?_
      refine lv_iload hx hb dX5_giveTubs_38 (lv_at hl 0 rfl) ?_
      refine lv_isub hx hb dX5_giveTubs_40 ?_
      refine lv_topi (fun x_11 ex_11 => ?_)
      have jx_11 : (x_11).toInt = (x_3).toInt - (x_7).toInt := by rw [ex_11]; exact dk_subT rfl rfl (by omega) (by omega)
      refine lv_istore_n (lv' := [(3, .int x_11), (5, .int x_7), (4, .int i_1), (0, .ref pt), (1, .int a1), (2, .int a2)]) hx hb dX5_giveTubs_41 rfl hl (by decide) rfl (fun ls hl => ?_)
      obtain ⟨x_12, ex_12⟩ : ∃ z, z = i_1 + 1 := ⟨_, rfl⟩
      have jx_12 : (x_12).toInt = (i_1).toInt + 1 := by rw [ex_12]; exact dk_addT rfl (by decide +kernel) (by omega) (by omega)
      refine lv_iinc (v := x_12) (lv' := [(4, .int x_12), (3, .int x_11), (5, .int x_7), (0, .ref pt), (1, .int a1), (2, .int a2)]) hx hb dX5_giveTubs_42 hl (k := 2) rfl (by rw [ex_12]; rfl) (by decide) rfl (fun ls hl => ?_)
      refine lv_goto (tgt := 5) hx hb dX5_giveTubs_45 (by decide) ?_
      have hP := hP.sub (ws' := [(pt, .inr (5, [.int pt_shift, .int pt_purse, .ref pt_cells, .ref pt_hurts, .ref pt_planMiners, .ref pt_planPlaces, .ref pt_sold, .ref pt_tubCounts])), (pt_tubCounts, .inl (g 0, 10, .inl f_9))]) [0, 1] rfl
      have hD := hD.sub (ws' := [(pt, .inr (5, [.int pt_shift, .int pt_purse, .ref pt_cells, .ref pt_hurts, .ref pt_planMiners, .ref pt_planPlaces, .ref pt_sold, .ref pt_tubCounts])), (pt_tubCounts, .inl (g 0, 10, .inl f_9))]) [0, 1] (by decide) rfl
      exact ih x_12 x_11 f_9 (by omega) (by omega) jf_9 (by omega) _ _ hP hD hS _ (lv_sub hl [0, 1, 3, 4, 5] rfl)
  exact loop_2 ((10 : Int) - (a1).toInt).toNat a1 a2 ptf_tubCounts (by omega) (by omega) b_ptf_tubCounts (by omega) _ _ hP hD hS _ (lv_sub hl [0, 1, 2, 3, 4] rfl)
set_option maxHeartbeats 8000000 in
set_option maxRecDepth 100000 in
theorem c_p_wholeWorth (l : Launch) (g : Nat → ClassId) (D : va_G) (pt : Nat) (pt_shift : Int32) (pt_purse : Int32) (pt_cells : Nat) (pt_hurts : Nat) (pt_planMiners : Nat) (pt_planPlaces : Nat) (pt_sold : Nat) (pt_tubCounts : Nat) (ptf_cells : Nat → Int32) (ptf_tubCounts : Nat → Int32) (b_pt_shift : 0 ≤ (pt_shift).toInt ∧ (pt_shift).toInt ≤ 999) (b_pt_purse : 0 ≤ (pt_purse).toInt ∧ (pt_purse).toInt ≤ 99999) (b_ptf_cells : dk_row 72 ptf_cells dk_Pcel) (b_ptf_tubCounts : dk_all 10 ptf_tubCounts 0 99) (sz : Nat) : Met l yX5_wholeWorth wsX5_wholeWorth ({ frames := 2, cells := 0, slots := 0, locals := 54 } : Room) (dk_Pc g D [(pt, .inr (5, [.int pt_shift, .int pt_purse, .ref pt_cells, .ref pt_hurts, .ref pt_planMiners, .ref pt_planPlaces, .ref pt_sold, .ref pt_tubCounts])), (pt_cells, .inl (g 0, 72, .inl ptf_cells)), (pt_tubCounts, .inl (g 0, 10, .inl ptf_tubCounts))] sz [.ref pt]) (va_Qi (fun (r : Int32) (_ : Unit) => (0 ≤ (r).toInt ∧ (r).toInt ≤ 27270) ∧ True) (dk_B D (va_A [(pt, .inr (5, [.int pt_shift, .int pt_purse, .ref pt_cells, .ref pt_hurts, .ref pt_planMiners, .ref pt_planPlaces, .ref pt_sold, .ref pt_tubCounts])), (pt_cells, .inl (g 0, 72, .inl ptf_cells)), (pt_tubCounts, .inl (g 0, 10, .inl ptf_tubCounts))] sz) (fun (_ : Unit) => [(pt, .inr (5, [.int pt_shift, .int pt_purse, .ref pt_cells, .ref pt_hurts, .ref pt_planMiners, .ref pt_planPlaces, .ref pt_sold, .ref pt_tubCounts])), (pt_cells, .inl (g 0, 72, .inl ptf_cells)), (pt_tubCounts, .inl (g 0, 10, .inl ptf_tubCounts))])) (va_A [(pt, .inr (5, [.int pt_shift, .int pt_purse, .ref pt_cells, .ref pt_hurts, .ref pt_planMiners, .ref pt_planPlaces, .ref pt_sold, .ref pt_tubCounts])), (pt_cells, .inl (g 0, 72, .inl ptf_cells)), (pt_tubCounts, .inl (g 0, 10, .inl ptf_tubCounts))] sz)) 0 0 (va_A [(pt, .inr (5, [.int pt_shift, .int pt_purse, .ref pt_cells, .ref pt_hurts, .ref pt_planMiners, .ref pt_planPlaces, .ref pt_sold, .ref pt_tubCounts])), (pt_cells, .inl (g 0, 72, .inl ptf_cells)), (pt_tubCounts, .inl (g 0, 10, .inl ptf_tubCounts))] sz) := by
  refine dk_met (cc := cX5_wholeWorth) (maxL := 3) (ret := (some .int)) (by decide) rfl (Nat.le_of_ble_eq_true rfl) ?_
  intro p e s m args below meth c harg hx hb hr hml hts hown hlocks hin hP K hD hS hA ST hsz ls hl
  subst hsz
  generalize va_A [(pt, .inr (5, [.int pt_shift, .int pt_purse, .ref pt_cells, .ref pt_hurts, .ref pt_planMiners, .ref pt_planPlaces, .ref pt_sold, .ref pt_tubCounts])), (pt_cells, .inl (g 0, 72, .inl ptf_cells)), (pt_tubCounts, .inl (g 0, 10, .inl ptf_tubCounts))] s.heap.size = A at hD hS hA ST ⊢
  have F : CallFix p m c cX5_wholeWorth 3 s args wsX5_wholeWorth RX5 := ⟨hx, hb, hml, hown, hts⟩
  have hl : lv_has ls 3 [(0, .ref pt)] := hl
  have iX5 : ∀ w ∈ wsX50, w ∈ wsX5_wholeWorth := fun _ h => List.mem_cons_of_mem _ (List.mem_append_right _ h)
  refine lv_aload_n hx hb dX5_wholeWorth_0 rfl (lv_at hl 0 rfl) ?_
  refine dk_backi hP hD hS hA (wr := [(pt_cells, .inl (g 0, 72, .inl ptf_cells))]) [0, 2] [1] rfl rfl (by decide) (by decide) (va_runV (As := []) (rest := []) F (c_p_tubGrades l g D pt pt_shift pt_purse pt_cells pt_hurts pt_planMiners pt_planPlaces pt_sold pt_tubCounts ptf_tubCounts (by omega) (by omega) b_ptf_tubCounts s.heap.size) (cwV 0 hts gX5_wholeWorth_X5_tubGrades rfl rfl rfl (by decide +kernel) ⟨Nat.le_of_ble_eq_true rfl, Nat.le_of_ble_eq_true rfl⟩) (dk_preV K ST hP hD hS hA [0, 2] rfl (by decide) 0 rfl rfl) rfl rfl hl.1 rfl (lv_room (Nat.le_of_ble_eq_true rfl)) dX5_wholeWorth_1 ⟨Nat.le_of_ble_eq_true rfl, Nat.le_of_ble_eq_true rfl⟩) (fun r u H locs hw hP hD hS => ?_)
  obtain ⟨x_2, rfl⟩ : ∃ z, z = r := ⟨_, rfl⟩
  obtain ⟨w_1, -⟩ := hw
  have w_1 : 0 ≤ (x_2).toInt ∧ (x_2).toInt ≤ 8910 := w_1
  have hP : va_P D vwCl [(pt_cells, .inl (g 0, 72, .inl ptf_cells)), (pt, .inr (5, [.int pt_shift, .int pt_purse, .ref pt_cells, .ref pt_hurts, .ref pt_planMiners, .ref pt_planPlaces, .ref pt_sold, .ref pt_tubCounts])), (pt_tubCounts, .inl (g 0, 10, .inl ptf_tubCounts))] H := hP
  have hD : va_D A [(pt_cells, .inl (g 0, 72, .inl ptf_cells)), (pt, .inr (5, [.int pt_shift, .int pt_purse, .ref pt_cells, .ref pt_hurts, .ref pt_planMiners, .ref pt_planPlaces, .ref pt_sold, .ref pt_tubCounts])), (pt_tubCounts, .inl (g 0, 10, .inl ptf_tubCounts))] := hD
  refine lv_istore_n (lv' := [(1, .int x_2), (0, .ref pt)]) hx hb dX5_wholeWorth_4 rfl hl (by decide) rfl (fun ls hl => ?_)
  refine lv_iconst (v := 0) hx hb dX5_wholeWorth_5 (by decide +kernel) ?_
  refine lv_istore_n (lv' := [(2, .int 0), (1, .int x_2), (0, .ref pt)]) hx hb dX5_wholeWorth_6 rfl hl (by decide) rfl (fun ls hl => ?_)
  have loop_4 : ∀ (n : Nat) (i_3 : Int32) (x_5 : Int32), 0 ≤ (i_3).toInt → (0 ≤ (x_5).toInt ∧ (x_5).toInt ≤ 27270) → ((x_5).toInt ≤ 8910 + 255 * (i_3).toInt) → 72 - (i_3).toInt = (n : Int) → ∀ (H : Heap) (locs : List Loc), va_P D vwCl [(pt_cells, .inl (g 0, 72, .inl ptf_cells)), (pt, .inr (5, [.int pt_shift, .int pt_purse, .ref pt_cells, .ref pt_hurts, .ref pt_planMiners, .ref pt_planPlaces, .ref pt_sold, .ref pt_tubCounts])), (pt_tubCounts, .inl (g 0, 10, .inl ptf_tubCounts))] H → va_D A [(pt_cells, .inl (g 0, 72, .inl ptf_cells)), (pt, .inr (5, [.int pt_shift, .int pt_purse, .ref pt_cells, .ref pt_hurts, .ref pt_planMiners, .ref pt_planPlaces, .ref pt_sold, .ref pt_tubCounts])), (pt_tubCounts, .inl (g 0, 10, .inl ptf_tubCounts))] → va_S A s.heap H locs → ∀ ls : Array Slot, lv_has ls 3 [(2, .int i_3), (1, .int x_5), (0, .ref pt)] → W p l e ({ frames := 2, cells := 0, slots := 0, locals := 54 } : Room) s m args below meth c H locs (0) (0) (MQ below (va_Qi (fun (r : Int32) (_ : Unit) => (0 ≤ (r).toInt ∧ (r).toInt ≤ 27270) ∧ True) (dk_B D A (fun (_ : Unit) => [(pt, .inr (5, [.int pt_shift, .int pt_purse, .ref pt_cells, .ref pt_hurts, .ref pt_planMiners, .ref pt_planPlaces, .ref pt_sold, .ref pt_tubCounts])), (pt_cells, .inl (g 0, 72, .inl ptf_cells)), (pt_tubCounts, .inl (g 0, 10, .inl ptf_tubCounts))])) A) args s 0 0 A) (F0 m 7 ls []) := by
    intro n
    induction n with
    | zero =>
      intro i_3 x_5 blo_i_3 b_x_5 b_rel1 hm H locs hP hD hS ls hl
      refine lv_iload_n hx hb dX5_wholeWorth_7 rfl (lv_at hl 0 rfl) ?_
      refine lv_bipush (v := 72) hx hb dX5_wholeWorth_8 (by decide +kernel) ?_
      refine lv_icmp_ge (tgt := 36) hx hb dX5_wholeWorth_10 (by decide) (fun _ => ?_) (fun c => absurd (dk_gep (k := 72) (by decide +kernel) (by omega)) c)
      refine lv_iload_n hx hb dX5_wholeWorth_36 rfl (lv_at hl 1 rfl) ?_
      refine W.widen (k := 0) (n := 0) (Nat.le_of_ble_eq_true rfl) (Nat.le_of_ble_eq_true rfl) ?_
      exact dk_iret hx hb hr hlocks rfl hP hD hS () [1, 0, 2] rfl (by decide) ⟨(by omega), trivial⟩ dX5_wholeWorth_37
    | succ n ih =>
      intro i_3 x_5 blo_i_3 b_x_5 b_rel1 hm H locs hP hD hS ls hl
      refine lv_iload_n hx hb dX5_wholeWorth_7 rfl (lv_at hl 0 rfl) ?_
      refine lv_bipush (v := 72) hx hb dX5_wholeWorth_8 (by decide +kernel) ?_
      refine lv_icmp_ge (tgt := 36) hx hb dX5_wholeWorth_10 (by decide) (fun c => absurd c (fun z => absurd (dk_gec (k := 72) (by decide +kernel) z) (by omega))) (fun _ => ?_)
      refine lv_aload_n hx hb dX5_wholeWorth_13 rfl (lv_at hl 2 rfl) ?_
      refine lv_iload_n hx hb dX5_wholeWorth_14 rfl (lv_at hl 0 rfl) ?_
      refine dk_backi hP hD hS hA (wr := [(pt_tubCounts, .inl (g 0, 10, .inl ptf_tubCounts))]) [1, 0] [2] rfl rfl (by decide) (by decide) (va_runV (As := [.int i_3]) (rest := []) F (c_p_isSolid l g D pt pt_shift pt_purse pt_cells pt_hurts pt_planMiners pt_planPlaces pt_sold pt_tubCounts ptf_cells i_3 (by omega) (by omega) b_ptf_cells (by omega) H.size) (cwV 1 hts gX5_wholeWorth_X5_isSolid rfl rfl rfl (by decide +kernel) ⟨Nat.le_of_ble_eq_true rfl, Nat.le_of_ble_eq_true rfl⟩) (dk_preV K ST hP hD hS hA [1, 0] rfl (by decide) 1 rfl rfl) rfl rfl hl.1 rfl (lv_room (Nat.le_of_ble_eq_true rfl)) dX5_wholeWorth_15 ⟨Nat.le_of_ble_eq_true rfl, Nat.le_of_ble_eq_true rfl⟩) (fun r u H locs hw hP hD hS => ?_)
      obtain ⟨x_7, rfl⟩ : ∃ z, z = r := ⟨_, rfl⟩
      obtain ⟨w_6, -⟩ := hw
      have w_6 : 0 ≤ (x_7).toInt ∧ (x_7).toInt ≤ 1 := w_6
      have hP : va_P D vwCl [(pt_tubCounts, .inl (g 0, 10, .inl ptf_tubCounts)), (pt, .inr (5, [.int pt_shift, .int pt_purse, .ref pt_cells, .ref pt_hurts, .ref pt_planMiners, .ref pt_planPlaces, .ref pt_sold, .ref pt_tubCounts])), (pt_cells, .inl (g 0, 72, .inl ptf_cells))] H := hP
      have hD : va_D A [(pt_tubCounts, .inl (g 0, 10, .inl ptf_tubCounts)), (pt, .inr (5, [.int pt_shift, .int pt_purse, .ref pt_cells, .ref pt_hurts, .ref pt_planMiners, .ref pt_planPlaces, .ref pt_sold, .ref pt_tubCounts])), (pt_cells, .inl (g 0, 72, .inl ptf_cells))] := hD
      refine lv_if_eq (tgt := 30) hx hb dX5_wholeWorth_18 (by decide) (fun c_8 => ?_) (fun c_8 => ?_)
      · have jc_8 := dk_eqc (k := 0) (by decide +kernel) c_8
        obtain ⟨x_9, ex_9⟩ : ∃ z, z = i_3 + 1 := ⟨_, rfl⟩
        have jx_9 : (x_9).toInt = (i_3).toInt + 1 := by rw [ex_9]; exact dk_addT rfl (by decide +kernel) (by omega) (by omega)
        refine lv_iinc (v := x_9) (lv' := [(2, .int x_9), (1, .int x_5), (0, .ref pt)]) hx hb dX5_wholeWorth_30 hl (k := 0) rfl (by rw [ex_9]; rfl) (by decide) rfl (fun ls hl => ?_)
        refine lv_goto (tgt := 7) hx hb dX5_wholeWorth_33 (by decide) ?_
        have hP := hP.sub (ws' := [(pt_cells, .inl (g 0, 72, .inl ptf_cells)), (pt, .inr (5, [.int pt_shift, .int pt_purse, .ref pt_cells, .ref pt_hurts, .ref pt_planMiners, .ref pt_planPlaces, .ref pt_sold, .ref pt_tubCounts])), (pt_tubCounts, .inl (g 0, 10, .inl ptf_tubCounts))]) [2, 1, 0] rfl
        have hD := hD.sub (ws' := [(pt_cells, .inl (g 0, 72, .inl ptf_cells)), (pt, .inr (5, [.int pt_shift, .int pt_purse, .ref pt_cells, .ref pt_hurts, .ref pt_planMiners, .ref pt_planPlaces, .ref pt_sold, .ref pt_tubCounts])), (pt_tubCounts, .inl (g 0, 10, .inl ptf_tubCounts))]) [2, 1, 0] (by decide) rfl
        exact ih x_9 x_5 (by omega) (by omega) (by omega) (by omega) _ _ hP hD hS _ (lv_sub hl [0, 1, 2] rfl)
      · have jc_8 := dk_neqc (k := 0) (by decide +kernel) c_8
        refine lv_iload_n hx hb dX5_wholeWorth_21 rfl (lv_at hl 1 rfl) ?_
        refine lv_aload_n hx hb dX5_wholeWorth_22 rfl (lv_at hl 2 rfl) ?_
        refine va_get (C := RX5) (T := TX5) (N := 8) hx hb hts iX5 hown K.1 hP 1 rfl rfl 2 (by decide) (hts (.fieldLink RX5 9 "DarkMine$Pit" "cells" "[I") (by decide +kernel)) (fun _ h9 => h9) (v := .ref pt_cells) rfl dX5_wholeWorth_23 ?_
        refine lv_iload_n hx hb dX5_wholeWorth_26 rfl (lv_at hl 0 rfl) ?_
        have hin_11 : vp_in i_3 72 := (dk_inv (by omega) (by omega))
        refine dk_iald hx hb K hP 2 rfl hin_11 rfl dX5_wholeWorth_27 ?_
        refine lv_topi (fun x_10 ex_10 => ?_)
        have jx_10 : 0 ≤ (x_10).toInt ∧ (x_10).toInt ≤ 255 ∧ (254 ≤ (x_10).toInt → 8 ≤ (i_3 : Int32).toInt ∧ (i_3 : Int32).toInt ≤ 63) := dk_row_at b_ptf_cells hin_11 ex_10
        refine lv_iadd hx hb dX5_wholeWorth_28 ?_
        refine lv_topi (fun x_12 ex_12 => ?_)
        have jx_12 : (x_12).toInt = (x_5).toInt + (x_10).toInt := by rw [ex_12]; exact dk_addT rfl rfl (by omega) (by omega)
        refine lv_istore_n (lv' := [(1, .int x_12), (2, .int i_3), (0, .ref pt)]) hx hb dX5_wholeWorth_29 rfl hl (by decide) rfl (fun ls hl => ?_)
        obtain ⟨x_13, ex_13⟩ : ∃ z, z = i_3 + 1 := ⟨_, rfl⟩
        have jx_13 : (x_13).toInt = (i_3).toInt + 1 := by rw [ex_13]; exact dk_addT rfl (by decide +kernel) (by omega) (by omega)
        refine lv_iinc (v := x_13) (lv' := [(2, .int x_13), (1, .int x_12), (0, .ref pt)]) hx hb dX5_wholeWorth_30 hl (k := 1) rfl (by rw [ex_13]; rfl) (by decide) rfl (fun ls hl => ?_)
        refine lv_goto (tgt := 7) hx hb dX5_wholeWorth_33 (by decide) ?_
        have hP := hP.sub (ws' := [(pt_cells, .inl (g 0, 72, .inl ptf_cells)), (pt, .inr (5, [.int pt_shift, .int pt_purse, .ref pt_cells, .ref pt_hurts, .ref pt_planMiners, .ref pt_planPlaces, .ref pt_sold, .ref pt_tubCounts])), (pt_tubCounts, .inl (g 0, 10, .inl ptf_tubCounts))]) [2, 1, 0] rfl
        have hD := hD.sub (ws' := [(pt_cells, .inl (g 0, 72, .inl ptf_cells)), (pt, .inr (5, [.int pt_shift, .int pt_purse, .ref pt_cells, .ref pt_hurts, .ref pt_planMiners, .ref pt_planPlaces, .ref pt_sold, .ref pt_tubCounts])), (pt_tubCounts, .inl (g 0, 10, .inl ptf_tubCounts))]) [2, 1, 0] (by decide) rfl
        exact ih x_13 x_12 (by omega) (by omega) (by omega) (by omega) _ _ hP hD hS _ (lv_sub hl [0, 1, 2] rfl)
  have hz_14 : (0 : Int32).toInt = 0 := by decide +kernel
  exact loop_4 ((72 : Int) - 0).toNat 0 x_2 (by omega) (by omega) (by omega) (by omega) _ _ hP hD hS _ (lv_sub hl [0, 1, 2] rfl)
set_option maxHeartbeats 8000000 in
set_option maxRecDepth 100000 in
theorem c_p_copy (l : Launch) (g : Nat → ClassId) (D : va_G) (pr : Int32) (pt : Nat) (pt_shift : Int32) (pt_purse : Int32) (pt_cells : Nat) (pt_hurts : Nat) (pt_planMiners : Nat) (pt_planPlaces : Nat) (pt_sold : Nat) (pt_tubCounts : Nat) (ptf_cells : Nat → Int32) (ptf_hurts : Nat → Int32) (ptf_planMiners : Nat → Int32) (ptf_planPlaces : Nat → Int32) (ptf_sold : Nat → Int32) (ptf_tubCounts : Nat → Int32) (po : Nat) (po_shift : Int32) (po_purse : Int32) (po_cells : Nat) (po_hurts : Nat) (po_planMiners : Nat) (po_planPlaces : Nat) (po_sold : Nat) (po_tubCounts : Nat) (pof_cells : Nat → Int32) (pof_hurts : Nat → Int32) (pof_planMiners : Nat → Int32) (pof_planPlaces : Nat → Int32) (pof_sold : Nat → Int32) (pof_tubCounts : Nat → Int32) (b_pt_shift : 0 ≤ (pt_shift).toInt ∧ (pt_shift).toInt ≤ 999) (b_pt_purse : 0 ≤ (pt_purse).toInt ∧ (pt_purse).toInt ≤ 99999) (b_ptf_cells : dk_row 72 ptf_cells dk_Pcel) (b_ptf_hurts : dk_all 6 ptf_hurts 0 1) (b_ptf_planMiners : dk_all 16 ptf_planMiners 0 5) (b_ptf_planPlaces : dk_all 16 ptf_planPlaces 0 63) (b_ptf_sold : dk_all 5 ptf_sold 0 1) (b_ptf_tubCounts : dk_all 10 ptf_tubCounts 0 99) (b_po_shift : 0 ≤ (po_shift).toInt ∧ (po_shift).toInt ≤ 999) (b_po_purse : 0 ≤ (po_purse).toInt ∧ (po_purse).toInt ≤ 99999) (b_pof_cells : dk_row 72 pof_cells dk_Pcel) (b_pof_hurts : dk_all 6 pof_hurts 0 1) (b_pof_planMiners : dk_all 16 pof_planMiners 0 5) (b_pof_planPlaces : dk_row 16 pof_planPlaces (dk_Ppl pr)) (b_pof_sold : dk_all 5 pof_sold 0 1) (b_pof_tubCounts : dk_all 10 pof_tubCounts 0 99) (sz : Nat) : Met l yX5_copy wsX5_copy ({ frames := 2, cells := 0, slots := 0, locals := 40 } : Room) (dk_Pc g D [(pt, .inr (5, [.int pt_shift, .int pt_purse, .ref pt_cells, .ref pt_hurts, .ref pt_planMiners, .ref pt_planPlaces, .ref pt_sold, .ref pt_tubCounts])), (pt_cells, .inl (g 0, 72, .inl ptf_cells)), (pt_hurts, .inl (g 0, 6, .inl ptf_hurts)), (pt_planMiners, .inl (g 0, 16, .inl ptf_planMiners)), (pt_planPlaces, .inl (g 0, 16, .inl ptf_planPlaces)), (pt_sold, .inl (g 0, 5, .inl ptf_sold)), (pt_tubCounts, .inl (g 0, 10, .inl ptf_tubCounts)), (po, .inr (5, [.int po_shift, .int po_purse, .ref po_cells, .ref po_hurts, .ref po_planMiners, .ref po_planPlaces, .ref po_sold, .ref po_tubCounts])), (po_cells, .inl (g 0, 72, .inl pof_cells)), (po_hurts, .inl (g 0, 6, .inl pof_hurts)), (po_planMiners, .inl (g 0, 16, .inl pof_planMiners)), (po_planPlaces, .inl (g 0, 16, .inl pof_planPlaces)), (po_sold, .inl (g 0, 5, .inl pof_sold)), (po_tubCounts, .inl (g 0, 10, .inl pof_tubCounts))] sz [.ref pt, .ref po]) (va_Qv (fun (u : Int32 × Int32 × (Nat → Int32) × (Nat → Int32) × (Nat → Int32) × (Nat → Int32) × (Nat → Int32) × (Nat → Int32)) => (0 ≤ (u.1).toInt ∧ (u.1).toInt ≤ 999) ∧ (0 ≤ (u.2.1).toInt ∧ (u.2.1).toInt ≤ 99999) ∧ dk_row 72 u.2.2.1 dk_Pcel ∧ dk_all 6 u.2.2.2.1 0 1 ∧ dk_all 16 u.2.2.2.2.1 0 5 ∧ dk_row 16 u.2.2.2.2.2.1 (dk_Ppl pr) ∧ dk_all 5 u.2.2.2.2.2.2.1 0 1 ∧ dk_all 10 u.2.2.2.2.2.2.2 0 99 ∧ True) (dk_B D (va_A [(pt, .inr (5, [.int pt_shift, .int pt_purse, .ref pt_cells, .ref pt_hurts, .ref pt_planMiners, .ref pt_planPlaces, .ref pt_sold, .ref pt_tubCounts])), (pt_cells, .inl (g 0, 72, .inl ptf_cells)), (pt_hurts, .inl (g 0, 6, .inl ptf_hurts)), (pt_planMiners, .inl (g 0, 16, .inl ptf_planMiners)), (pt_planPlaces, .inl (g 0, 16, .inl ptf_planPlaces)), (pt_sold, .inl (g 0, 5, .inl ptf_sold)), (pt_tubCounts, .inl (g 0, 10, .inl ptf_tubCounts)), (po, .inr (5, [.int po_shift, .int po_purse, .ref po_cells, .ref po_hurts, .ref po_planMiners, .ref po_planPlaces, .ref po_sold, .ref po_tubCounts])), (po_cells, .inl (g 0, 72, .inl pof_cells)), (po_hurts, .inl (g 0, 6, .inl pof_hurts)), (po_planMiners, .inl (g 0, 16, .inl pof_planMiners)), (po_planPlaces, .inl (g 0, 16, .inl pof_planPlaces)), (po_sold, .inl (g 0, 5, .inl pof_sold)), (po_tubCounts, .inl (g 0, 10, .inl pof_tubCounts))] sz) (fun (u : Int32 × Int32 × (Nat → Int32) × (Nat → Int32) × (Nat → Int32) × (Nat → Int32) × (Nat → Int32) × (Nat → Int32)) => [(pt, .inr (5, [.int u.1, .int u.2.1, .ref pt_cells, .ref pt_hurts, .ref pt_planMiners, .ref pt_planPlaces, .ref pt_sold, .ref pt_tubCounts])), (pt_cells, .inl (g 0, 72, .inl u.2.2.1)), (pt_hurts, .inl (g 0, 6, .inl u.2.2.2.1)), (pt_planMiners, .inl (g 0, 16, .inl u.2.2.2.2.1)), (pt_planPlaces, .inl (g 0, 16, .inl u.2.2.2.2.2.1)), (pt_sold, .inl (g 0, 5, .inl u.2.2.2.2.2.2.1)), (pt_tubCounts, .inl (g 0, 10, .inl u.2.2.2.2.2.2.2)), (po, .inr (5, [.int po_shift, .int po_purse, .ref po_cells, .ref po_hurts, .ref po_planMiners, .ref po_planPlaces, .ref po_sold, .ref po_tubCounts])), (po_cells, .inl (g 0, 72, .inl pof_cells)), (po_hurts, .inl (g 0, 6, .inl pof_hurts)), (po_planMiners, .inl (g 0, 16, .inl pof_planMiners)), (po_planPlaces, .inl (g 0, 16, .inl pof_planPlaces)), (po_sold, .inl (g 0, 5, .inl pof_sold)), (po_tubCounts, .inl (g 0, 10, .inl pof_tubCounts))])) (va_A [(pt, .inr (5, [.int pt_shift, .int pt_purse, .ref pt_cells, .ref pt_hurts, .ref pt_planMiners, .ref pt_planPlaces, .ref pt_sold, .ref pt_tubCounts])), (pt_cells, .inl (g 0, 72, .inl ptf_cells)), (pt_hurts, .inl (g 0, 6, .inl ptf_hurts)), (pt_planMiners, .inl (g 0, 16, .inl ptf_planMiners)), (pt_planPlaces, .inl (g 0, 16, .inl ptf_planPlaces)), (pt_sold, .inl (g 0, 5, .inl ptf_sold)), (pt_tubCounts, .inl (g 0, 10, .inl ptf_tubCounts)), (po, .inr (5, [.int po_shift, .int po_purse, .ref po_cells, .ref po_hurts, .ref po_planMiners, .ref po_planPlaces, .ref po_sold, .ref po_tubCounts])), (po_cells, .inl (g 0, 72, .inl pof_cells)), (po_hurts, .inl (g 0, 6, .inl pof_hurts)), (po_planMiners, .inl (g 0, 16, .inl pof_planMiners)), (po_planPlaces, .inl (g 0, 16, .inl pof_planPlaces)), (po_sold, .inl (g 0, 5, .inl pof_sold)), (po_tubCounts, .inl (g 0, 10, .inl pof_tubCounts))] sz)) 0 0 (va_A [(pt, .inr (5, [.int pt_shift, .int pt_purse, .ref pt_cells, .ref pt_hurts, .ref pt_planMiners, .ref pt_planPlaces, .ref pt_sold, .ref pt_tubCounts])), (pt_cells, .inl (g 0, 72, .inl ptf_cells)), (pt_hurts, .inl (g 0, 6, .inl ptf_hurts)), (pt_planMiners, .inl (g 0, 16, .inl ptf_planMiners)), (pt_planPlaces, .inl (g 0, 16, .inl ptf_planPlaces)), (pt_sold, .inl (g 0, 5, .inl ptf_sold)), (pt_tubCounts, .inl (g 0, 10, .inl ptf_tubCounts)), (po, .inr (5, [.int po_shift, .int po_purse, .ref po_cells, .ref po_hurts, .ref po_planMiners, .ref po_planPlaces, .ref po_sold, .ref po_tubCounts])), (po_cells, .inl (g 0, 72, .inl pof_cells)), (po_hurts, .inl (g 0, 6, .inl pof_hurts)), (po_planMiners, .inl (g 0, 16, .inl pof_planMiners)), (po_planPlaces, .inl (g 0, 16, .inl pof_planPlaces)), (po_sold, .inl (g 0, 5, .inl pof_sold)), (po_tubCounts, .inl (g 0, 10, .inl pof_tubCounts))] sz) := by
  refine dk_met (cc := cX5_copy) (maxL := 2) (ret := none) (by decide) rfl (Nat.le_of_ble_eq_true rfl) ?_
  intro p e s m args below meth c harg hx hb hr hml hts hown hlocks hin hP K hD hS hA ST hsz ls hl
  subst hsz
  generalize va_A [(pt, .inr (5, [.int pt_shift, .int pt_purse, .ref pt_cells, .ref pt_hurts, .ref pt_planMiners, .ref pt_planPlaces, .ref pt_sold, .ref pt_tubCounts])), (pt_cells, .inl (g 0, 72, .inl ptf_cells)), (pt_hurts, .inl (g 0, 6, .inl ptf_hurts)), (pt_planMiners, .inl (g 0, 16, .inl ptf_planMiners)), (pt_planPlaces, .inl (g 0, 16, .inl ptf_planPlaces)), (pt_sold, .inl (g 0, 5, .inl ptf_sold)), (pt_tubCounts, .inl (g 0, 10, .inl ptf_tubCounts)), (po, .inr (5, [.int po_shift, .int po_purse, .ref po_cells, .ref po_hurts, .ref po_planMiners, .ref po_planPlaces, .ref po_sold, .ref po_tubCounts])), (po_cells, .inl (g 0, 72, .inl pof_cells)), (po_hurts, .inl (g 0, 6, .inl pof_hurts)), (po_planMiners, .inl (g 0, 16, .inl pof_planMiners)), (po_planPlaces, .inl (g 0, 16, .inl pof_planPlaces)), (po_sold, .inl (g 0, 5, .inl pof_sold)), (po_tubCounts, .inl (g 0, 10, .inl pof_tubCounts))] s.heap.size = A at hD hS hA ST ⊢
  have F : CallFix p m c cX5_copy 2 s args wsX5_copy RX5 := ⟨hx, hb, hml, hown, hts⟩
  have hl : lv_has ls 2 [(0, .ref pt), (1, .ref po)] := hl
  have iX5 : ∀ w ∈ wsX50, w ∈ wsX5_copy := fun _ h => List.mem_cons_of_mem _ (List.mem_append_right _ h)
  refine lv_aload_n hx hb dX5_copy_0 rfl (lv_at hl 0 rfl) ?_
  refine lv_aload_n hx hb dX5_copy_1 rfl (lv_at hl 1 rfl) ?_
  refine va_get (C := RX5) (T := TX5) (N := 8) hx hb hts iX5 hown K.1 hP 7 rfl rfl 0 (by decide) (hts (.fieldLink RX5 30 "DarkMine$Pit" "shift" "I") (by decide +kernel)) (fun _ h9 => h9) (v := .int po_shift) rfl dX5_copy_2 ?_
  refine va_put (D := D) (ci := 5) (v := .int po_shift) (ty := tyX5 0) (C := RX5) (T := TX5) (N := 8) hx hb hts iX5 tyX5 tyX5_ok nmX5 hown K.1 hP hD hS 0 rfl rfl 0 (by decide) (hts (.fieldLink RX5 30 "DarkMine$Pit" "shift" "I") (by decide +kernel)) (fun _ h9 => h9) rfl (by decide +kernel) rfl rfl (Nat.le_of_ble_eq_true rfl) dX5_copy_5 (fun H locs hP hD hS => ?_)
  have hP : va_P D vwCl [(pt, .inr (5, [.int po_shift, .int pt_purse, .ref pt_cells, .ref pt_hurts, .ref pt_planMiners, .ref pt_planPlaces, .ref pt_sold, .ref pt_tubCounts])), (pt_cells, .inl (g 0, 72, .inl ptf_cells)), (pt_hurts, .inl (g 0, 6, .inl ptf_hurts)), (pt_planMiners, .inl (g 0, 16, .inl ptf_planMiners)), (pt_planPlaces, .inl (g 0, 16, .inl ptf_planPlaces)), (pt_sold, .inl (g 0, 5, .inl ptf_sold)), (pt_tubCounts, .inl (g 0, 10, .inl ptf_tubCounts)), (po, .inr (5, [.int po_shift, .int po_purse, .ref po_cells, .ref po_hurts, .ref po_planMiners, .ref po_planPlaces, .ref po_sold, .ref po_tubCounts])), (po_cells, .inl (g 0, 72, .inl pof_cells)), (po_hurts, .inl (g 0, 6, .inl pof_hurts)), (po_planMiners, .inl (g 0, 16, .inl pof_planMiners)), (po_planPlaces, .inl (g 0, 16, .inl pof_planPlaces)), (po_sold, .inl (g 0, 5, .inl pof_sold)), (po_tubCounts, .inl (g 0, 10, .inl pof_tubCounts))] H := hP
  have hD : va_D A [(pt, .inr (5, [.int po_shift, .int pt_purse, .ref pt_cells, .ref pt_hurts, .ref pt_planMiners, .ref pt_planPlaces, .ref pt_sold, .ref pt_tubCounts])), (pt_cells, .inl (g 0, 72, .inl ptf_cells)), (pt_hurts, .inl (g 0, 6, .inl ptf_hurts)), (pt_planMiners, .inl (g 0, 16, .inl ptf_planMiners)), (pt_planPlaces, .inl (g 0, 16, .inl ptf_planPlaces)), (pt_sold, .inl (g 0, 5, .inl ptf_sold)), (pt_tubCounts, .inl (g 0, 10, .inl ptf_tubCounts)), (po, .inr (5, [.int po_shift, .int po_purse, .ref po_cells, .ref po_hurts, .ref po_planMiners, .ref po_planPlaces, .ref po_sold, .ref po_tubCounts])), (po_cells, .inl (g 0, 72, .inl pof_cells)), (po_hurts, .inl (g 0, 6, .inl pof_hurts)), (po_planMiners, .inl (g 0, 16, .inl pof_planMiners)), (po_planPlaces, .inl (g 0, 16, .inl pof_planPlaces)), (po_sold, .inl (g 0, 5, .inl pof_sold)), (po_tubCounts, .inl (g 0, 10, .inl pof_tubCounts))] := hD
  refine lv_aload_n hx hb dX5_copy_8 rfl (lv_at hl 0 rfl) ?_
  refine lv_aload_n hx hb dX5_copy_9 rfl (lv_at hl 1 rfl) ?_
  refine va_get (C := RX5) (T := TX5) (N := 8) hx hb hts iX5 hown K.1 hP 7 rfl rfl 1 (by decide) (hts (.fieldLink RX5 34 "DarkMine$Pit" "purse" "I") (by decide +kernel)) (fun _ h9 => h9) (v := .int po_purse) rfl dX5_copy_10 ?_
  refine va_put (D := D) (ci := 5) (v := .int po_purse) (ty := tyX5 1) (C := RX5) (T := TX5) (N := 8) hx hb hts iX5 tyX5 tyX5_ok nmX5 hown K.1 hP hD hS 0 rfl rfl 1 (by decide) (hts (.fieldLink RX5 34 "DarkMine$Pit" "purse" "I") (by decide +kernel)) (fun _ h9 => h9) rfl (by decide +kernel) rfl rfl (Nat.le_of_ble_eq_true rfl) dX5_copy_13 (fun H locs hP hD hS => ?_)
  have hP : va_P D vwCl [(pt, .inr (5, [.int po_shift, .int po_purse, .ref pt_cells, .ref pt_hurts, .ref pt_planMiners, .ref pt_planPlaces, .ref pt_sold, .ref pt_tubCounts])), (pt_cells, .inl (g 0, 72, .inl ptf_cells)), (pt_hurts, .inl (g 0, 6, .inl ptf_hurts)), (pt_planMiners, .inl (g 0, 16, .inl ptf_planMiners)), (pt_planPlaces, .inl (g 0, 16, .inl ptf_planPlaces)), (pt_sold, .inl (g 0, 5, .inl ptf_sold)), (pt_tubCounts, .inl (g 0, 10, .inl ptf_tubCounts)), (po, .inr (5, [.int po_shift, .int po_purse, .ref po_cells, .ref po_hurts, .ref po_planMiners, .ref po_planPlaces, .ref po_sold, .ref po_tubCounts])), (po_cells, .inl (g 0, 72, .inl pof_cells)), (po_hurts, .inl (g 0, 6, .inl pof_hurts)), (po_planMiners, .inl (g 0, 16, .inl pof_planMiners)), (po_planPlaces, .inl (g 0, 16, .inl pof_planPlaces)), (po_sold, .inl (g 0, 5, .inl pof_sold)), (po_tubCounts, .inl (g 0, 10, .inl pof_tubCounts))] H := hP
  have hD : va_D A [(pt, .inr (5, [.int po_shift, .int po_purse, .ref pt_cells, .ref pt_hurts, .ref pt_planMiners, .ref pt_planPlaces, .ref pt_sold, .ref pt_tubCounts])), (pt_cells, .inl (g 0, 72, .inl ptf_cells)), (pt_hurts, .inl (g 0, 6, .inl ptf_hurts)), (pt_planMiners, .inl (g 0, 16, .inl ptf_planMiners)), (pt_planPlaces, .inl (g 0, 16, .inl ptf_planPlaces)), (pt_sold, .inl (g 0, 5, .inl ptf_sold)), (pt_tubCounts, .inl (g 0, 10, .inl ptf_tubCounts)), (po, .inr (5, [.int po_shift, .int po_purse, .ref po_cells, .ref po_hurts, .ref po_planMiners, .ref po_planPlaces, .ref po_sold, .ref po_tubCounts])), (po_cells, .inl (g 0, 72, .inl pof_cells)), (po_hurts, .inl (g 0, 6, .inl pof_hurts)), (po_planMiners, .inl (g 0, 16, .inl pof_planMiners)), (po_planPlaces, .inl (g 0, 16, .inl pof_planPlaces)), (po_sold, .inl (g 0, 5, .inl pof_sold)), (po_tubCounts, .inl (g 0, 10, .inl pof_tubCounts))] := hD
  refine lv_aload_n hx hb dX5_copy_16 rfl (lv_at hl 1 rfl) ?_
  refine va_get (C := RX5) (T := TX5) (N := 8) hx hb hts iX5 hown K.1 hP 7 rfl rfl 2 (by decide) (hts (.fieldLink RX5 9 "DarkMine$Pit" "cells" "[I") (by decide +kernel)) (fun _ h9 => h9) (v := .ref po_cells) rfl dX5_copy_17 ?_
  refine lv_iconst (v := 0) hx hb dX5_copy_20 (by decide +kernel) ?_
  refine lv_aload_n hx hb dX5_copy_21 rfl (lv_at hl 0 rfl) ?_
  refine va_get (C := RX5) (T := TX5) (N := 8) hx hb hts iX5 hown K.1 hP 0 rfl rfl 2 (by decide) (hts (.fieldLink RX5 9 "DarkMine$Pit" "cells" "[I") (by decide +kernel)) (fun _ h9 => h9) (v := .ref pt_cells) rfl dX5_copy_22 ?_
  refine lv_iconst (v := 0) hx hb dX5_copy_25 (by decide +kernel) ?_
  refine lv_bipush (v := 72) hx hb dX5_copy_26 (by decide +kernel) ?_
  have hz_2 : (72 : Int32).toInt = 72 := by decide +kernel
  have hz_3 : (0 : Int32).toInt = 0 := by decide +kernel
  have hz_4 : (0 : Int32).toInt = 0 := by decide +kernel
  have hc_5 : (0 : Int32).toNatClampNeg + (72 : Int32).toNatClampNeg ≤ 72 := (by rw [dk_clN, dk_clN]; omega)
  obtain ⟨f_1, hf_1⟩ : ∃ f' : Nat → Int32, f' = va_cpy pof_cells ptf_cells (0 : Int32).toNatClampNeg (0 : Int32).toNatClampNeg (72 : Int32).toNatClampNeg := ⟨_, rfl⟩
  have jf_1 : dk_row 72 f_1 dk_Pcel := by rw [hf_1]; exact dk_row_cpyA (n0 := 72) b_pof_cells _ _ _ (by decide +kernel) (by decide +kernel) (by decide +kernel) hc_5
  refine va_copyi hx hb (by rw [hml]; exact hl.1.symm) hown (hts (.methodLink RX5 54 arraycopyName) (by decide +kernel)) (hts (.native arraycopyName) (by decide +kernel)) (hts (.static arraycopyName) (by decide +kernel)) (hts (.initialized "java/lang/System") (by decide +kernel)) K.1 hP hD hS 8 1 0 0 rfl rfl rfl rfl rfl (dk_nneg (by omega)) (dk_nneg (by omega)) (dk_nneg (by omega)) hc_5 (by rw [dk_clN, dk_clN]; omega) (fun _ _ => rfl) (Nat.le_of_ble_eq_true rfl) (Nat.le_of_ble_eq_true rfl) dX5_copy_28 (fun H locs hP hD hS => ?_)
  rw [← hf_1] at hP hD
  have hP : va_P D vwCl [(pt, .inr (5, [.int po_shift, .int po_purse, .ref pt_cells, .ref pt_hurts, .ref pt_planMiners, .ref pt_planPlaces, .ref pt_sold, .ref pt_tubCounts])), (pt_cells, .inl (g 0, 72, .inl f_1)), (pt_hurts, .inl (g 0, 6, .inl ptf_hurts)), (pt_planMiners, .inl (g 0, 16, .inl ptf_planMiners)), (pt_planPlaces, .inl (g 0, 16, .inl ptf_planPlaces)), (pt_sold, .inl (g 0, 5, .inl ptf_sold)), (pt_tubCounts, .inl (g 0, 10, .inl ptf_tubCounts)), (po, .inr (5, [.int po_shift, .int po_purse, .ref po_cells, .ref po_hurts, .ref po_planMiners, .ref po_planPlaces, .ref po_sold, .ref po_tubCounts])), (po_cells, .inl (g 0, 72, .inl pof_cells)), (po_hurts, .inl (g 0, 6, .inl pof_hurts)), (po_planMiners, .inl (g 0, 16, .inl pof_planMiners)), (po_planPlaces, .inl (g 0, 16, .inl pof_planPlaces)), (po_sold, .inl (g 0, 5, .inl pof_sold)), (po_tubCounts, .inl (g 0, 10, .inl pof_tubCounts))] H := hP
  have hD : va_D A [(pt, .inr (5, [.int po_shift, .int po_purse, .ref pt_cells, .ref pt_hurts, .ref pt_planMiners, .ref pt_planPlaces, .ref pt_sold, .ref pt_tubCounts])), (pt_cells, .inl (g 0, 72, .inl f_1)), (pt_hurts, .inl (g 0, 6, .inl ptf_hurts)), (pt_planMiners, .inl (g 0, 16, .inl ptf_planMiners)), (pt_planPlaces, .inl (g 0, 16, .inl ptf_planPlaces)), (pt_sold, .inl (g 0, 5, .inl ptf_sold)), (pt_tubCounts, .inl (g 0, 10, .inl ptf_tubCounts)), (po, .inr (5, [.int po_shift, .int po_purse, .ref po_cells, .ref po_hurts, .ref po_planMiners, .ref po_planPlaces, .ref po_sold, .ref po_tubCounts])), (po_cells, .inl (g 0, 72, .inl pof_cells)), (po_hurts, .inl (g 0, 6, .inl pof_hurts)), (po_planMiners, .inl (g 0, 16, .inl pof_planMiners)), (po_planPlaces, .inl (g 0, 16, .inl pof_planPlaces)), (po_sold, .inl (g 0, 5, .inl pof_sold)), (po_tubCounts, .inl (g 0, 10, .inl pof_tubCounts))] := hD
  refine lv_aload_n hx hb dX5_copy_31 rfl (lv_at hl 1 rfl) ?_
  refine va_get (C := RX5) (T := TX5) (N := 8) hx hb hts iX5 hown K.1 hP 7 rfl rfl 3 (by decide) (hts (.fieldLink RX5 15 "DarkMine$Pit" "hurts" "[I") (by decide +kernel)) (fun _ h9 => h9) (v := .ref po_hurts) rfl dX5_copy_32 ?_
  refine lv_iconst (v := 0) hx hb dX5_copy_35 (by decide +kernel) ?_
  refine lv_aload_n hx hb dX5_copy_36 rfl (lv_at hl 0 rfl) ?_
  refine va_get (C := RX5) (T := TX5) (N := 8) hx hb hts iX5 hown K.1 hP 0 rfl rfl 3 (by decide) (hts (.fieldLink RX5 15 "DarkMine$Pit" "hurts" "[I") (by decide +kernel)) (fun _ h9 => h9) (v := .ref pt_hurts) rfl dX5_copy_37 ?_
  refine lv_iconst (v := 0) hx hb dX5_copy_40 (by decide +kernel) ?_
  refine lv_bipush (v := 6) hx hb dX5_copy_41 (by decide +kernel) ?_
  have hz_7 : (6 : Int32).toInt = 6 := by decide +kernel
  have hz_8 : (0 : Int32).toInt = 0 := by decide +kernel
  have hz_9 : (0 : Int32).toInt = 0 := by decide +kernel
  have hc_10 : (0 : Int32).toNatClampNeg + (6 : Int32).toNatClampNeg ≤ 6 := (by rw [dk_clN, dk_clN]; omega)
  obtain ⟨f_6, hf_6⟩ : ∃ f' : Nat → Int32, f' = va_cpy pof_hurts ptf_hurts (0 : Int32).toNatClampNeg (0 : Int32).toNatClampNeg (6 : Int32).toNatClampNeg := ⟨_, rfl⟩
  have jf_6 : dk_all 6 f_6 0 1 := by rw [hf_6]; exact dk_all_cpy (n0 := 6) b_pof_hurts b_ptf_hurts _ _ _ hc_10
  refine va_copyi hx hb (by rw [hml]; exact hl.1.symm) hown (hts (.methodLink RX5 54 arraycopyName) (by decide +kernel)) (hts (.native arraycopyName) (by decide +kernel)) (hts (.static arraycopyName) (by decide +kernel)) (hts (.initialized "java/lang/System") (by decide +kernel)) K.1 hP hD hS 9 2 0 0 rfl rfl rfl rfl rfl (dk_nneg (by omega)) (dk_nneg (by omega)) (dk_nneg (by omega)) hc_10 (by rw [dk_clN, dk_clN]; omega) (fun _ _ => rfl) (Nat.le_of_ble_eq_true rfl) (Nat.le_of_ble_eq_true rfl) dX5_copy_43 (fun H locs hP hD hS => ?_)
  rw [← hf_6] at hP hD
  have hP : va_P D vwCl [(pt, .inr (5, [.int po_shift, .int po_purse, .ref pt_cells, .ref pt_hurts, .ref pt_planMiners, .ref pt_planPlaces, .ref pt_sold, .ref pt_tubCounts])), (pt_cells, .inl (g 0, 72, .inl f_1)), (pt_hurts, .inl (g 0, 6, .inl f_6)), (pt_planMiners, .inl (g 0, 16, .inl ptf_planMiners)), (pt_planPlaces, .inl (g 0, 16, .inl ptf_planPlaces)), (pt_sold, .inl (g 0, 5, .inl ptf_sold)), (pt_tubCounts, .inl (g 0, 10, .inl ptf_tubCounts)), (po, .inr (5, [.int po_shift, .int po_purse, .ref po_cells, .ref po_hurts, .ref po_planMiners, .ref po_planPlaces, .ref po_sold, .ref po_tubCounts])), (po_cells, .inl (g 0, 72, .inl pof_cells)), (po_hurts, .inl (g 0, 6, .inl pof_hurts)), (po_planMiners, .inl (g 0, 16, .inl pof_planMiners)), (po_planPlaces, .inl (g 0, 16, .inl pof_planPlaces)), (po_sold, .inl (g 0, 5, .inl pof_sold)), (po_tubCounts, .inl (g 0, 10, .inl pof_tubCounts))] H := hP
  have hD : va_D A [(pt, .inr (5, [.int po_shift, .int po_purse, .ref pt_cells, .ref pt_hurts, .ref pt_planMiners, .ref pt_planPlaces, .ref pt_sold, .ref pt_tubCounts])), (pt_cells, .inl (g 0, 72, .inl f_1)), (pt_hurts, .inl (g 0, 6, .inl f_6)), (pt_planMiners, .inl (g 0, 16, .inl ptf_planMiners)), (pt_planPlaces, .inl (g 0, 16, .inl ptf_planPlaces)), (pt_sold, .inl (g 0, 5, .inl ptf_sold)), (pt_tubCounts, .inl (g 0, 10, .inl ptf_tubCounts)), (po, .inr (5, [.int po_shift, .int po_purse, .ref po_cells, .ref po_hurts, .ref po_planMiners, .ref po_planPlaces, .ref po_sold, .ref po_tubCounts])), (po_cells, .inl (g 0, 72, .inl pof_cells)), (po_hurts, .inl (g 0, 6, .inl pof_hurts)), (po_planMiners, .inl (g 0, 16, .inl pof_planMiners)), (po_planPlaces, .inl (g 0, 16, .inl pof_planPlaces)), (po_sold, .inl (g 0, 5, .inl pof_sold)), (po_tubCounts, .inl (g 0, 10, .inl pof_tubCounts))] := hD
  refine lv_aload_n hx hb dX5_copy_46 rfl (lv_at hl 1 rfl) ?_
  refine va_get (C := RX5) (T := TX5) (N := 8) hx hb hts iX5 hown K.1 hP 7 rfl rfl 4 (by decide) (hts (.fieldLink RX5 18 "DarkMine$Pit" "planMiners" "[I") (by decide +kernel)) (fun _ h9 => h9) (v := .ref po_planMiners) rfl dX5_copy_47 ?_
  refine lv_iconst (v := 0) hx hb dX5_copy_50 (by decide +kernel) ?_
  refine lv_aload_n hx hb dX5_copy_51 rfl (lv_at hl 0 rfl) ?_
  refine va_get (C := RX5) (T := TX5) (N := 8) hx hb hts iX5 hown K.1 hP 0 rfl rfl 4 (by decide) (hts (.fieldLink RX5 18 "DarkMine$Pit" "planMiners" "[I") (by decide +kernel)) (fun _ h9 => h9) (v := .ref pt_planMiners) rfl dX5_copy_52 ?_
  refine lv_iconst (v := 0) hx hb dX5_copy_55 (by decide +kernel) ?_
  refine lv_bipush (v := 16) hx hb dX5_copy_56 (by decide +kernel) ?_
  have hz_12 : (16 : Int32).toInt = 16 := by decide +kernel
  have hz_13 : (0 : Int32).toInt = 0 := by decide +kernel
  have hz_14 : (0 : Int32).toInt = 0 := by decide +kernel
  have hc_15 : (0 : Int32).toNatClampNeg + (16 : Int32).toNatClampNeg ≤ 16 := (by rw [dk_clN, dk_clN]; omega)
  obtain ⟨f_11, hf_11⟩ : ∃ f' : Nat → Int32, f' = va_cpy pof_planMiners ptf_planMiners (0 : Int32).toNatClampNeg (0 : Int32).toNatClampNeg (16 : Int32).toNatClampNeg := ⟨_, rfl⟩
  have jf_11 : dk_all 16 f_11 0 5 := by rw [hf_11]; exact dk_all_cpy (n0 := 16) b_pof_planMiners b_ptf_planMiners _ _ _ hc_15
  refine va_copyi hx hb (by rw [hml]; exact hl.1.symm) hown (hts (.methodLink RX5 54 arraycopyName) (by decide +kernel)) (hts (.native arraycopyName) (by decide +kernel)) (hts (.static arraycopyName) (by decide +kernel)) (hts (.initialized "java/lang/System") (by decide +kernel)) K.1 hP hD hS 10 3 0 0 rfl rfl rfl rfl rfl (dk_nneg (by omega)) (dk_nneg (by omega)) (dk_nneg (by omega)) hc_15 (by rw [dk_clN, dk_clN]; omega) (fun _ _ => rfl) (Nat.le_of_ble_eq_true rfl) (Nat.le_of_ble_eq_true rfl) dX5_copy_58 (fun H locs hP hD hS => ?_)
  rw [← hf_11] at hP hD
  have hP : va_P D vwCl [(pt, .inr (5, [.int po_shift, .int po_purse, .ref pt_cells, .ref pt_hurts, .ref pt_planMiners, .ref pt_planPlaces, .ref pt_sold, .ref pt_tubCounts])), (pt_cells, .inl (g 0, 72, .inl f_1)), (pt_hurts, .inl (g 0, 6, .inl f_6)), (pt_planMiners, .inl (g 0, 16, .inl f_11)), (pt_planPlaces, .inl (g 0, 16, .inl ptf_planPlaces)), (pt_sold, .inl (g 0, 5, .inl ptf_sold)), (pt_tubCounts, .inl (g 0, 10, .inl ptf_tubCounts)), (po, .inr (5, [.int po_shift, .int po_purse, .ref po_cells, .ref po_hurts, .ref po_planMiners, .ref po_planPlaces, .ref po_sold, .ref po_tubCounts])), (po_cells, .inl (g 0, 72, .inl pof_cells)), (po_hurts, .inl (g 0, 6, .inl pof_hurts)), (po_planMiners, .inl (g 0, 16, .inl pof_planMiners)), (po_planPlaces, .inl (g 0, 16, .inl pof_planPlaces)), (po_sold, .inl (g 0, 5, .inl pof_sold)), (po_tubCounts, .inl (g 0, 10, .inl pof_tubCounts))] H := hP
  have hD : va_D A [(pt, .inr (5, [.int po_shift, .int po_purse, .ref pt_cells, .ref pt_hurts, .ref pt_planMiners, .ref pt_planPlaces, .ref pt_sold, .ref pt_tubCounts])), (pt_cells, .inl (g 0, 72, .inl f_1)), (pt_hurts, .inl (g 0, 6, .inl f_6)), (pt_planMiners, .inl (g 0, 16, .inl f_11)), (pt_planPlaces, .inl (g 0, 16, .inl ptf_planPlaces)), (pt_sold, .inl (g 0, 5, .inl ptf_sold)), (pt_tubCounts, .inl (g 0, 10, .inl ptf_tubCounts)), (po, .inr (5, [.int po_shift, .int po_purse, .ref po_cells, .ref po_hurts, .ref po_planMiners, .ref po_planPlaces, .ref po_sold, .ref po_tubCounts])), (po_cells, .inl (g 0, 72, .inl pof_cells)), (po_hurts, .inl (g 0, 6, .inl pof_hurts)), (po_planMiners, .inl (g 0, 16, .inl pof_planMiners)), (po_planPlaces, .inl (g 0, 16, .inl pof_planPlaces)), (po_sold, .inl (g 0, 5, .inl pof_sold)), (po_tubCounts, .inl (g 0, 10, .inl pof_tubCounts))] := hD
  refine lv_aload_n hx hb dX5_copy_61 rfl (lv_at hl 1 rfl) ?_
  refine va_get (C := RX5) (T := TX5) (N := 8) hx hb hts iX5 hown K.1 hP 7 rfl rfl 5 (by decide) (hts (.fieldLink RX5 21 "DarkMine$Pit" "planPlaces" "[I") (by decide +kernel)) (fun _ h9 => h9) (v := .ref po_planPlaces) rfl dX5_copy_62 ?_
  refine lv_iconst (v := 0) hx hb dX5_copy_65 (by decide +kernel) ?_
  refine lv_aload_n hx hb dX5_copy_66 rfl (lv_at hl 0 rfl) ?_
  refine va_get (C := RX5) (T := TX5) (N := 8) hx hb hts iX5 hown K.1 hP 0 rfl rfl 5 (by decide) (hts (.fieldLink RX5 21 "DarkMine$Pit" "planPlaces" "[I") (by decide +kernel)) (fun _ h9 => h9) (v := .ref pt_planPlaces) rfl dX5_copy_67 ?_
  refine lv_iconst (v := 0) hx hb dX5_copy_70 (by decide +kernel) ?_
  refine lv_bipush (v := 16) hx hb dX5_copy_71 (by decide +kernel) ?_
  have hz_17 : (16 : Int32).toInt = 16 := by decide +kernel
  have hz_18 : (0 : Int32).toInt = 0 := by decide +kernel
  have hz_19 : (0 : Int32).toInt = 0 := by decide +kernel
  have hc_20 : (0 : Int32).toNatClampNeg + (16 : Int32).toNatClampNeg ≤ 16 := (by rw [dk_clN, dk_clN]; omega)
  obtain ⟨f_16, hf_16⟩ : ∃ f' : Nat → Int32, f' = va_cpy pof_planPlaces ptf_planPlaces (0 : Int32).toNatClampNeg (0 : Int32).toNatClampNeg (16 : Int32).toNatClampNeg := ⟨_, rfl⟩
  have jf_16 : dk_row 16 f_16 (dk_Ppl pr) := by rw [hf_16]; exact dk_row_cpyA (n0 := 16) b_pof_planPlaces _ _ _ (by decide +kernel) (by decide +kernel) (by decide +kernel) hc_20
  refine va_copyi hx hb (by rw [hml]; exact hl.1.symm) hown (hts (.methodLink RX5 54 arraycopyName) (by decide +kernel)) (hts (.native arraycopyName) (by decide +kernel)) (hts (.static arraycopyName) (by decide +kernel)) (hts (.initialized "java/lang/System") (by decide +kernel)) K.1 hP hD hS 11 4 0 0 rfl rfl rfl rfl rfl (dk_nneg (by omega)) (dk_nneg (by omega)) (dk_nneg (by omega)) hc_20 (by rw [dk_clN, dk_clN]; omega) (fun _ _ => rfl) (Nat.le_of_ble_eq_true rfl) (Nat.le_of_ble_eq_true rfl) dX5_copy_73 (fun H locs hP hD hS => ?_)
  rw [← hf_16] at hP hD
  have hP : va_P D vwCl [(pt, .inr (5, [.int po_shift, .int po_purse, .ref pt_cells, .ref pt_hurts, .ref pt_planMiners, .ref pt_planPlaces, .ref pt_sold, .ref pt_tubCounts])), (pt_cells, .inl (g 0, 72, .inl f_1)), (pt_hurts, .inl (g 0, 6, .inl f_6)), (pt_planMiners, .inl (g 0, 16, .inl f_11)), (pt_planPlaces, .inl (g 0, 16, .inl f_16)), (pt_sold, .inl (g 0, 5, .inl ptf_sold)), (pt_tubCounts, .inl (g 0, 10, .inl ptf_tubCounts)), (po, .inr (5, [.int po_shift, .int po_purse, .ref po_cells, .ref po_hurts, .ref po_planMiners, .ref po_planPlaces, .ref po_sold, .ref po_tubCounts])), (po_cells, .inl (g 0, 72, .inl pof_cells)), (po_hurts, .inl (g 0, 6, .inl pof_hurts)), (po_planMiners, .inl (g 0, 16, .inl pof_planMiners)), (po_planPlaces, .inl (g 0, 16, .inl pof_planPlaces)), (po_sold, .inl (g 0, 5, .inl pof_sold)), (po_tubCounts, .inl (g 0, 10, .inl pof_tubCounts))] H := hP
  have hD : va_D A [(pt, .inr (5, [.int po_shift, .int po_purse, .ref pt_cells, .ref pt_hurts, .ref pt_planMiners, .ref pt_planPlaces, .ref pt_sold, .ref pt_tubCounts])), (pt_cells, .inl (g 0, 72, .inl f_1)), (pt_hurts, .inl (g 0, 6, .inl f_6)), (pt_planMiners, .inl (g 0, 16, .inl f_11)), (pt_planPlaces, .inl (g 0, 16, .inl f_16)), (pt_sold, .inl (g 0, 5, .inl ptf_sold)), (pt_tubCounts, .inl (g 0, 10, .inl ptf_tubCounts)), (po, .inr (5, [.int po_shift, .int po_purse, .ref po_cells, .ref po_hurts, .ref po_planMiners, .ref po_planPlaces, .ref po_sold, .ref po_tubCounts])), (po_cells, .inl (g 0, 72, .inl pof_cells)), (po_hurts, .inl (g 0, 6, .inl pof_hurts)), (po_planMiners, .inl (g 0, 16, .inl pof_planMiners)), (po_planPlaces, .inl (g 0, 16, .inl pof_planPlaces)), (po_sold, .inl (g 0, 5, .inl pof_sold)), (po_tubCounts, .inl (g 0, 10, .inl pof_tubCounts))] := hD
  refine lv_aload_n hx hb dX5_copy_76 rfl (lv_at hl 1 rfl) ?_
  refine va_get (C := RX5) (T := TX5) (N := 8) hx hb hts iX5 hown K.1 hP 7 rfl rfl 6 (by decide) (hts (.fieldLink RX5 24 "DarkMine$Pit" "sold" "[I") (by decide +kernel)) (fun _ h9 => h9) (v := .ref po_sold) rfl dX5_copy_77 ?_
  refine lv_iconst (v := 0) hx hb dX5_copy_80 (by decide +kernel) ?_
  refine lv_aload_n hx hb dX5_copy_81 rfl (lv_at hl 0 rfl) ?_
  refine va_get (C := RX5) (T := TX5) (N := 8) hx hb hts iX5 hown K.1 hP 0 rfl rfl 6 (by decide) (hts (.fieldLink RX5 24 "DarkMine$Pit" "sold" "[I") (by decide +kernel)) (fun _ h9 => h9) (v := .ref pt_sold) rfl dX5_copy_82 ?_
  refine lv_iconst (v := 0) hx hb dX5_copy_85 (by decide +kernel) ?_
  refine lv_iconst (v := 5) hx hb dX5_copy_86 (by decide +kernel) ?_
  have hz_22 : (5 : Int32).toInt = 5 := by decide +kernel
  have hz_23 : (0 : Int32).toInt = 0 := by decide +kernel
  have hz_24 : (0 : Int32).toInt = 0 := by decide +kernel
  have hc_25 : (0 : Int32).toNatClampNeg + (5 : Int32).toNatClampNeg ≤ 5 := (by rw [dk_clN, dk_clN]; omega)
  obtain ⟨f_21, hf_21⟩ : ∃ f' : Nat → Int32, f' = va_cpy pof_sold ptf_sold (0 : Int32).toNatClampNeg (0 : Int32).toNatClampNeg (5 : Int32).toNatClampNeg := ⟨_, rfl⟩
  have jf_21 : dk_all 5 f_21 0 1 := by rw [hf_21]; exact dk_all_cpy (n0 := 5) b_pof_sold b_ptf_sold _ _ _ hc_25
  refine va_copyi hx hb (by rw [hml]; exact hl.1.symm) hown (hts (.methodLink RX5 54 arraycopyName) (by decide +kernel)) (hts (.native arraycopyName) (by decide +kernel)) (hts (.static arraycopyName) (by decide +kernel)) (hts (.initialized "java/lang/System") (by decide +kernel)) K.1 hP hD hS 12 5 0 0 rfl rfl rfl rfl rfl (dk_nneg (by omega)) (dk_nneg (by omega)) (dk_nneg (by omega)) hc_25 (by rw [dk_clN, dk_clN]; omega) (fun _ _ => rfl) (Nat.le_of_ble_eq_true rfl) (Nat.le_of_ble_eq_true rfl) dX5_copy_87 (fun H locs hP hD hS => ?_)
  rw [← hf_21] at hP hD
  have hP : va_P D vwCl [(pt, .inr (5, [.int po_shift, .int po_purse, .ref pt_cells, .ref pt_hurts, .ref pt_planMiners, .ref pt_planPlaces, .ref pt_sold, .ref pt_tubCounts])), (pt_cells, .inl (g 0, 72, .inl f_1)), (pt_hurts, .inl (g 0, 6, .inl f_6)), (pt_planMiners, .inl (g 0, 16, .inl f_11)), (pt_planPlaces, .inl (g 0, 16, .inl f_16)), (pt_sold, .inl (g 0, 5, .inl f_21)), (pt_tubCounts, .inl (g 0, 10, .inl ptf_tubCounts)), (po, .inr (5, [.int po_shift, .int po_purse, .ref po_cells, .ref po_hurts, .ref po_planMiners, .ref po_planPlaces, .ref po_sold, .ref po_tubCounts])), (po_cells, .inl (g 0, 72, .inl pof_cells)), (po_hurts, .inl (g 0, 6, .inl pof_hurts)), (po_planMiners, .inl (g 0, 16, .inl pof_planMiners)), (po_planPlaces, .inl (g 0, 16, .inl pof_planPlaces)), (po_sold, .inl (g 0, 5, .inl pof_sold)), (po_tubCounts, .inl (g 0, 10, .inl pof_tubCounts))] H := hP
  have hD : va_D A [(pt, .inr (5, [.int po_shift, .int po_purse, .ref pt_cells, .ref pt_hurts, .ref pt_planMiners, .ref pt_planPlaces, .ref pt_sold, .ref pt_tubCounts])), (pt_cells, .inl (g 0, 72, .inl f_1)), (pt_hurts, .inl (g 0, 6, .inl f_6)), (pt_planMiners, .inl (g 0, 16, .inl f_11)), (pt_planPlaces, .inl (g 0, 16, .inl f_16)), (pt_sold, .inl (g 0, 5, .inl f_21)), (pt_tubCounts, .inl (g 0, 10, .inl ptf_tubCounts)), (po, .inr (5, [.int po_shift, .int po_purse, .ref po_cells, .ref po_hurts, .ref po_planMiners, .ref po_planPlaces, .ref po_sold, .ref po_tubCounts])), (po_cells, .inl (g 0, 72, .inl pof_cells)), (po_hurts, .inl (g 0, 6, .inl pof_hurts)), (po_planMiners, .inl (g 0, 16, .inl pof_planMiners)), (po_planPlaces, .inl (g 0, 16, .inl pof_planPlaces)), (po_sold, .inl (g 0, 5, .inl pof_sold)), (po_tubCounts, .inl (g 0, 10, .inl pof_tubCounts))] := hD
  refine lv_aload_n hx hb dX5_copy_90 rfl (lv_at hl 1 rfl) ?_
  refine va_get (C := RX5) (T := TX5) (N := 8) hx hb hts iX5 hown K.1 hP 7 rfl rfl 7 (by decide) (hts (.fieldLink RX5 27 "DarkMine$Pit" "tubCounts" "[I") (by decide +kernel)) (fun _ h9 => h9) (v := .ref po_tubCounts) rfl dX5_copy_91 ?_
  refine lv_iconst (v := 0) hx hb dX5_copy_94 (by decide +kernel) ?_
  refine lv_aload_n hx hb dX5_copy_95 rfl (lv_at hl 0 rfl) ?_
  refine va_get (C := RX5) (T := TX5) (N := 8) hx hb hts iX5 hown K.1 hP 0 rfl rfl 7 (by decide) (hts (.fieldLink RX5 27 "DarkMine$Pit" "tubCounts" "[I") (by decide +kernel)) (fun _ h9 => h9) (v := .ref pt_tubCounts) rfl dX5_copy_96 ?_
  refine lv_iconst (v := 0) hx hb dX5_copy_99 (by decide +kernel) ?_
  refine lv_bipush (v := 10) hx hb dX5_copy_100 (by decide +kernel) ?_
  have hz_27 : (10 : Int32).toInt = 10 := by decide +kernel
  have hz_28 : (0 : Int32).toInt = 0 := by decide +kernel
  have hz_29 : (0 : Int32).toInt = 0 := by decide +kernel
  have hc_30 : (0 : Int32).toNatClampNeg + (10 : Int32).toNatClampNeg ≤ 10 := (by rw [dk_clN, dk_clN]; omega)
  obtain ⟨f_26, hf_26⟩ : ∃ f' : Nat → Int32, f' = va_cpy pof_tubCounts ptf_tubCounts (0 : Int32).toNatClampNeg (0 : Int32).toNatClampNeg (10 : Int32).toNatClampNeg := ⟨_, rfl⟩
  have jf_26 : dk_all 10 f_26 0 99 := by rw [hf_26]; exact dk_all_cpy (n0 := 10) b_pof_tubCounts b_ptf_tubCounts _ _ _ hc_30
  refine va_copyi hx hb (by rw [hml]; exact hl.1.symm) hown (hts (.methodLink RX5 54 arraycopyName) (by decide +kernel)) (hts (.native arraycopyName) (by decide +kernel)) (hts (.static arraycopyName) (by decide +kernel)) (hts (.initialized "java/lang/System") (by decide +kernel)) K.1 hP hD hS 13 6 0 0 rfl rfl rfl rfl rfl (dk_nneg (by omega)) (dk_nneg (by omega)) (dk_nneg (by omega)) hc_30 (by rw [dk_clN, dk_clN]; omega) (fun _ _ => rfl) (Nat.le_of_ble_eq_true rfl) (Nat.le_of_ble_eq_true rfl) dX5_copy_102 (fun H locs hP hD hS => ?_)
  rw [← hf_26] at hP hD
  have hP : va_P D vwCl [(pt, .inr (5, [.int po_shift, .int po_purse, .ref pt_cells, .ref pt_hurts, .ref pt_planMiners, .ref pt_planPlaces, .ref pt_sold, .ref pt_tubCounts])), (pt_cells, .inl (g 0, 72, .inl f_1)), (pt_hurts, .inl (g 0, 6, .inl f_6)), (pt_planMiners, .inl (g 0, 16, .inl f_11)), (pt_planPlaces, .inl (g 0, 16, .inl f_16)), (pt_sold, .inl (g 0, 5, .inl f_21)), (pt_tubCounts, .inl (g 0, 10, .inl f_26)), (po, .inr (5, [.int po_shift, .int po_purse, .ref po_cells, .ref po_hurts, .ref po_planMiners, .ref po_planPlaces, .ref po_sold, .ref po_tubCounts])), (po_cells, .inl (g 0, 72, .inl pof_cells)), (po_hurts, .inl (g 0, 6, .inl pof_hurts)), (po_planMiners, .inl (g 0, 16, .inl pof_planMiners)), (po_planPlaces, .inl (g 0, 16, .inl pof_planPlaces)), (po_sold, .inl (g 0, 5, .inl pof_sold)), (po_tubCounts, .inl (g 0, 10, .inl pof_tubCounts))] H := hP
  have hD : va_D A [(pt, .inr (5, [.int po_shift, .int po_purse, .ref pt_cells, .ref pt_hurts, .ref pt_planMiners, .ref pt_planPlaces, .ref pt_sold, .ref pt_tubCounts])), (pt_cells, .inl (g 0, 72, .inl f_1)), (pt_hurts, .inl (g 0, 6, .inl f_6)), (pt_planMiners, .inl (g 0, 16, .inl f_11)), (pt_planPlaces, .inl (g 0, 16, .inl f_16)), (pt_sold, .inl (g 0, 5, .inl f_21)), (pt_tubCounts, .inl (g 0, 10, .inl f_26)), (po, .inr (5, [.int po_shift, .int po_purse, .ref po_cells, .ref po_hurts, .ref po_planMiners, .ref po_planPlaces, .ref po_sold, .ref po_tubCounts])), (po_cells, .inl (g 0, 72, .inl pof_cells)), (po_hurts, .inl (g 0, 6, .inl pof_hurts)), (po_planMiners, .inl (g 0, 16, .inl pof_planMiners)), (po_planPlaces, .inl (g 0, 16, .inl pof_planPlaces)), (po_sold, .inl (g 0, 5, .inl pof_sold)), (po_tubCounts, .inl (g 0, 10, .inl pof_tubCounts))] := hD
  refine W.widen (k := 0) (n := 0) (Nat.le_of_ble_eq_true rfl) (Nat.le_of_ble_eq_true rfl) ?_
  exact dk_vret hx hb hr hlocks hP hD hS ⟨po_shift, po_purse, f_1, f_6, f_11, f_16, f_21, f_26⟩ [0, 1, 2, 3, 4, 5, 6, 7, 8, 9, 10, 11, 12, 13] rfl (by decide) ⟨(show 0 ≤ (po_shift).toInt ∧ (po_shift).toInt ≤ 999 from by omega), (show 0 ≤ (po_purse).toInt ∧ (po_purse).toInt ≤ 99999 from by omega), jf_1, jf_6, jf_11, jf_16, jf_21, jf_26, trivial⟩ dX5_copy_105
set_option maxHeartbeats 8000000 in
set_option maxRecDepth 100000 in
theorem c_p_begin (l : Launch) (g : Nat → ClassId) (D : va_G) (pt : Nat) (pt_shift : Int32) (pt_purse : Int32) (pt_cells : Nat) (pt_hurts : Nat) (pt_planMiners : Nat) (pt_planPlaces : Nat) (pt_sold : Nat) (pt_tubCounts : Nat) (ptf_cells : Nat → Int32) (ptf_hurts : Nat → Int32) (ptf_planMiners : Nat → Int32) (ptf_planPlaces : Nat → Int32) (ptf_sold : Nat → Int32) (ptf_tubCounts : Nat → Int32) (gr : Nat) (gr_columns : Int32) (gr_rows : Int32) (gr_shaftPlace : Int32) (gr_reach : Int32) (gr_quake : Int32) (gr_grades : Nat) (gr_miners : Int32) (gr_minerNames : Nat) (gr_planRows : Int32) (gr_planMiners : Nat) (gr_planPlaces : Nat) (gr_orders : Int32) (gr_orderNames : Nat) (gr_orderGrades : Nat) (gr_orderTubs : Nat) (gr_orderPays : Nat) (gr_steps : Nat) (gr_ruleFrom : Nat) (gr_ruleEnd : Nat) (grf_grades : Nat → Int32) (grf_planMiners : Nat → Int32) (grf_planPlaces : Nat → Int32) (b_pt_shift : 0 ≤ (pt_shift).toInt ∧ (pt_shift).toInt ≤ 999) (b_pt_purse : 0 ≤ (pt_purse).toInt ∧ (pt_purse).toInt ≤ 99999) (b_ptf_cells : dk_row 72 ptf_cells dk_Pcel) (b_ptf_hurts : dk_all 6 ptf_hurts 0 1) (b_ptf_planMiners : dk_all 16 ptf_planMiners 0 5) (b_ptf_planPlaces : dk_all 16 ptf_planPlaces 0 63) (b_ptf_sold : dk_all 5 ptf_sold 0 1) (b_ptf_tubCounts : dk_all 10 ptf_tubCounts 0 99) (b_gr_columns : 0 ≤ (gr_columns).toInt ∧ (gr_columns).toInt ≤ 7) (b_gr_rows : 0 ≤ (gr_rows).toInt ∧ (gr_rows).toInt ≤ 7) (b_gr_shaftPlace : (-1) ≤ (gr_shaftPlace).toInt ∧ (gr_shaftPlace).toInt ≤ 63) (b_gr_reach : 0 ≤ (gr_reach).toInt ∧ (gr_reach).toInt ≤ 20) (b_gr_quake : 0 ≤ (gr_quake).toInt ∧ (gr_quake).toInt ≤ 100) (b_gr_miners : 0 ≤ (gr_miners).toInt ∧ (gr_miners).toInt ≤ 6) (b_gr_planRows : 0 ≤ (gr_planRows).toInt ∧ (gr_planRows).toInt ≤ 16) (b_gr_orders : 0 ≤ (gr_orders).toInt ∧ (gr_orders).toInt ≤ 5) (b_grf_grades : dk_all 72 grf_grades 0 9) (b_grf_planMiners : dk_all 16 grf_planMiners 0 5) (b_grf_planPlaces : dk_row 16 grf_planPlaces (dk_Ppl gr_planRows)) (x_shaft : 0 < (gr_columns).toInt → 8 ≤ (gr_shaftPlace).toInt) (sz : Nat) : Met l yX5_begin wsX5_begin ({ frames := 2, cells := 0, slots := 0, locals := 55 } : Room) (dk_Pc g D [(pt, .inr (5, [.int pt_shift, .int pt_purse, .ref pt_cells, .ref pt_hurts, .ref pt_planMiners, .ref pt_planPlaces, .ref pt_sold, .ref pt_tubCounts])), (pt_cells, .inl (g 0, 72, .inl ptf_cells)), (pt_hurts, .inl (g 0, 6, .inl ptf_hurts)), (pt_planMiners, .inl (g 0, 16, .inl ptf_planMiners)), (pt_planPlaces, .inl (g 0, 16, .inl ptf_planPlaces)), (pt_sold, .inl (g 0, 5, .inl ptf_sold)), (pt_tubCounts, .inl (g 0, 10, .inl ptf_tubCounts)), (gr, .inr (2, [.int gr_columns, .int gr_rows, .int gr_shaftPlace, .int gr_reach, .int gr_quake, .ref gr_grades, .int gr_miners, .ref gr_minerNames, .int gr_planRows, .ref gr_planMiners, .ref gr_planPlaces, .int gr_orders, .ref gr_orderNames, .ref gr_orderGrades, .ref gr_orderTubs, .ref gr_orderPays, .ref gr_steps, .ref gr_ruleFrom, .ref gr_ruleEnd])), (gr_grades, .inl (g 0, 72, .inl grf_grades)), (gr_planMiners, .inl (g 0, 16, .inl grf_planMiners)), (gr_planPlaces, .inl (g 0, 16, .inl grf_planPlaces))] sz [.ref pt, .ref gr]) (va_Qv (fun (u : (Nat → Int32) × (Nat → Int32) × (Nat → Int32)) => dk_row 72 u.1 dk_Pcel ∧ dk_all 16 u.2.1 0 5 ∧ dk_row 16 u.2.2 (dk_Ppl gr_planRows) ∧ True) (dk_B D (va_A [(pt, .inr (5, [.int pt_shift, .int pt_purse, .ref pt_cells, .ref pt_hurts, .ref pt_planMiners, .ref pt_planPlaces, .ref pt_sold, .ref pt_tubCounts])), (pt_cells, .inl (g 0, 72, .inl ptf_cells)), (pt_hurts, .inl (g 0, 6, .inl ptf_hurts)), (pt_planMiners, .inl (g 0, 16, .inl ptf_planMiners)), (pt_planPlaces, .inl (g 0, 16, .inl ptf_planPlaces)), (pt_sold, .inl (g 0, 5, .inl ptf_sold)), (pt_tubCounts, .inl (g 0, 10, .inl ptf_tubCounts)), (gr, .inr (2, [.int gr_columns, .int gr_rows, .int gr_shaftPlace, .int gr_reach, .int gr_quake, .ref gr_grades, .int gr_miners, .ref gr_minerNames, .int gr_planRows, .ref gr_planMiners, .ref gr_planPlaces, .int gr_orders, .ref gr_orderNames, .ref gr_orderGrades, .ref gr_orderTubs, .ref gr_orderPays, .ref gr_steps, .ref gr_ruleFrom, .ref gr_ruleEnd])), (gr_grades, .inl (g 0, 72, .inl grf_grades)), (gr_planMiners, .inl (g 0, 16, .inl grf_planMiners)), (gr_planPlaces, .inl (g 0, 16, .inl grf_planPlaces))] sz) (fun (u : (Nat → Int32) × (Nat → Int32) × (Nat → Int32)) => [(pt, .inr (5, [.int 0, .int 0, .ref pt_cells, .ref pt_hurts, .ref pt_planMiners, .ref pt_planPlaces, .ref pt_sold, .ref pt_tubCounts])), (pt_cells, .inl (g 0, 72, .inl u.1)), (pt_hurts, .inl (g 0, 6, .inl (fun _ => 0))), (pt_planMiners, .inl (g 0, 16, .inl u.2.1)), (pt_planPlaces, .inl (g 0, 16, .inl u.2.2)), (pt_sold, .inl (g 0, 5, .inl (fun _ => 0))), (pt_tubCounts, .inl (g 0, 10, .inl (fun _ => 0))), (gr, .inr (2, [.int gr_columns, .int gr_rows, .int gr_shaftPlace, .int gr_reach, .int gr_quake, .ref gr_grades, .int gr_miners, .ref gr_minerNames, .int gr_planRows, .ref gr_planMiners, .ref gr_planPlaces, .int gr_orders, .ref gr_orderNames, .ref gr_orderGrades, .ref gr_orderTubs, .ref gr_orderPays, .ref gr_steps, .ref gr_ruleFrom, .ref gr_ruleEnd])), (gr_grades, .inl (g 0, 72, .inl grf_grades)), (gr_planMiners, .inl (g 0, 16, .inl grf_planMiners)), (gr_planPlaces, .inl (g 0, 16, .inl grf_planPlaces))])) (va_A [(pt, .inr (5, [.int pt_shift, .int pt_purse, .ref pt_cells, .ref pt_hurts, .ref pt_planMiners, .ref pt_planPlaces, .ref pt_sold, .ref pt_tubCounts])), (pt_cells, .inl (g 0, 72, .inl ptf_cells)), (pt_hurts, .inl (g 0, 6, .inl ptf_hurts)), (pt_planMiners, .inl (g 0, 16, .inl ptf_planMiners)), (pt_planPlaces, .inl (g 0, 16, .inl ptf_planPlaces)), (pt_sold, .inl (g 0, 5, .inl ptf_sold)), (pt_tubCounts, .inl (g 0, 10, .inl ptf_tubCounts)), (gr, .inr (2, [.int gr_columns, .int gr_rows, .int gr_shaftPlace, .int gr_reach, .int gr_quake, .ref gr_grades, .int gr_miners, .ref gr_minerNames, .int gr_planRows, .ref gr_planMiners, .ref gr_planPlaces, .int gr_orders, .ref gr_orderNames, .ref gr_orderGrades, .ref gr_orderTubs, .ref gr_orderPays, .ref gr_steps, .ref gr_ruleFrom, .ref gr_ruleEnd])), (gr_grades, .inl (g 0, 72, .inl grf_grades)), (gr_planMiners, .inl (g 0, 16, .inl grf_planMiners)), (gr_planPlaces, .inl (g 0, 16, .inl grf_planPlaces))] sz)) 0 0 (va_A [(pt, .inr (5, [.int pt_shift, .int pt_purse, .ref pt_cells, .ref pt_hurts, .ref pt_planMiners, .ref pt_planPlaces, .ref pt_sold, .ref pt_tubCounts])), (pt_cells, .inl (g 0, 72, .inl ptf_cells)), (pt_hurts, .inl (g 0, 6, .inl ptf_hurts)), (pt_planMiners, .inl (g 0, 16, .inl ptf_planMiners)), (pt_planPlaces, .inl (g 0, 16, .inl ptf_planPlaces)), (pt_sold, .inl (g 0, 5, .inl ptf_sold)), (pt_tubCounts, .inl (g 0, 10, .inl ptf_tubCounts)), (gr, .inr (2, [.int gr_columns, .int gr_rows, .int gr_shaftPlace, .int gr_reach, .int gr_quake, .ref gr_grades, .int gr_miners, .ref gr_minerNames, .int gr_planRows, .ref gr_planMiners, .ref gr_planPlaces, .int gr_orders, .ref gr_orderNames, .ref gr_orderGrades, .ref gr_orderTubs, .ref gr_orderPays, .ref gr_steps, .ref gr_ruleFrom, .ref gr_ruleEnd])), (gr_grades, .inl (g 0, 72, .inl grf_grades)), (gr_planMiners, .inl (g 0, 16, .inl grf_planMiners)), (gr_planPlaces, .inl (g 0, 16, .inl grf_planPlaces))] sz) := by
  refine dk_met (cc := cX5_begin) (maxL := 4) (ret := none) (by decide) rfl (Nat.le_of_ble_eq_true rfl) ?_
  intro p e s m args below meth c harg hx hb hr hml hts hown hlocks hin hP K hD hS hA ST hsz ls hl
  subst hsz
  generalize va_A [(pt, .inr (5, [.int pt_shift, .int pt_purse, .ref pt_cells, .ref pt_hurts, .ref pt_planMiners, .ref pt_planPlaces, .ref pt_sold, .ref pt_tubCounts])), (pt_cells, .inl (g 0, 72, .inl ptf_cells)), (pt_hurts, .inl (g 0, 6, .inl ptf_hurts)), (pt_planMiners, .inl (g 0, 16, .inl ptf_planMiners)), (pt_planPlaces, .inl (g 0, 16, .inl ptf_planPlaces)), (pt_sold, .inl (g 0, 5, .inl ptf_sold)), (pt_tubCounts, .inl (g 0, 10, .inl ptf_tubCounts)), (gr, .inr (2, [.int gr_columns, .int gr_rows, .int gr_shaftPlace, .int gr_reach, .int gr_quake, .ref gr_grades, .int gr_miners, .ref gr_minerNames, .int gr_planRows, .ref gr_planMiners, .ref gr_planPlaces, .int gr_orders, .ref gr_orderNames, .ref gr_orderGrades, .ref gr_orderTubs, .ref gr_orderPays, .ref gr_steps, .ref gr_ruleFrom, .ref gr_ruleEnd])), (gr_grades, .inl (g 0, 72, .inl grf_grades)), (gr_planMiners, .inl (g 0, 16, .inl grf_planMiners)), (gr_planPlaces, .inl (g 0, 16, .inl grf_planPlaces))] s.heap.size = A at hD hS hA ST ⊢
  have F : CallFix p m c cX5_begin 4 s args wsX5_begin RX5 := ⟨hx, hb, hml, hown, hts⟩
  have hl : lv_has ls 4 [(0, .ref pt), (1, .ref gr)] := hl
  have iX5 : ∀ w ∈ wsX50, w ∈ wsX5_begin := fun _ h => List.mem_cons_of_mem _ (List.mem_append_left _ (List.mem_append_right _ h))
  have iX2 : ∀ w ∈ wsX20, w ∈ wsX5_begin := fun _ h => List.mem_cons_of_mem _ (List.mem_append_right _ h)
  refine lv_aload_n hx hb dX5_begin_0 rfl (lv_at hl 0 rfl) ?_
  refine lv_iconst (v := 0) hx hb dX5_begin_1 (by decide +kernel) ?_
  refine va_put (D := D) (ci := 5) (v := .int 0) (ty := tyX5 0) (C := RX5) (T := TX5) (N := 8) hx hb hts iX5 tyX5 tyX5_ok nmX5 hown K.1 hP hD hS 0 rfl rfl 0 (by decide) (hts (.fieldLink RX5 30 "DarkMine$Pit" "shift" "I") (by decide +kernel)) (fun _ h9 => h9) rfl (by decide +kernel) rfl rfl (Nat.le_of_ble_eq_true rfl) dX5_begin_2 (fun H locs hP hD hS => ?_)
  have hP : va_P D vwCl [(pt, .inr (5, [.int 0, .int pt_purse, .ref pt_cells, .ref pt_hurts, .ref pt_planMiners, .ref pt_planPlaces, .ref pt_sold, .ref pt_tubCounts])), (pt_cells, .inl (g 0, 72, .inl ptf_cells)), (pt_hurts, .inl (g 0, 6, .inl ptf_hurts)), (pt_planMiners, .inl (g 0, 16, .inl ptf_planMiners)), (pt_planPlaces, .inl (g 0, 16, .inl ptf_planPlaces)), (pt_sold, .inl (g 0, 5, .inl ptf_sold)), (pt_tubCounts, .inl (g 0, 10, .inl ptf_tubCounts)), (gr, .inr (2, [.int gr_columns, .int gr_rows, .int gr_shaftPlace, .int gr_reach, .int gr_quake, .ref gr_grades, .int gr_miners, .ref gr_minerNames, .int gr_planRows, .ref gr_planMiners, .ref gr_planPlaces, .int gr_orders, .ref gr_orderNames, .ref gr_orderGrades, .ref gr_orderTubs, .ref gr_orderPays, .ref gr_steps, .ref gr_ruleFrom, .ref gr_ruleEnd])), (gr_grades, .inl (g 0, 72, .inl grf_grades)), (gr_planMiners, .inl (g 0, 16, .inl grf_planMiners)), (gr_planPlaces, .inl (g 0, 16, .inl grf_planPlaces))] H := hP
  have hD : va_D A [(pt, .inr (5, [.int 0, .int pt_purse, .ref pt_cells, .ref pt_hurts, .ref pt_planMiners, .ref pt_planPlaces, .ref pt_sold, .ref pt_tubCounts])), (pt_cells, .inl (g 0, 72, .inl ptf_cells)), (pt_hurts, .inl (g 0, 6, .inl ptf_hurts)), (pt_planMiners, .inl (g 0, 16, .inl ptf_planMiners)), (pt_planPlaces, .inl (g 0, 16, .inl ptf_planPlaces)), (pt_sold, .inl (g 0, 5, .inl ptf_sold)), (pt_tubCounts, .inl (g 0, 10, .inl ptf_tubCounts)), (gr, .inr (2, [.int gr_columns, .int gr_rows, .int gr_shaftPlace, .int gr_reach, .int gr_quake, .ref gr_grades, .int gr_miners, .ref gr_minerNames, .int gr_planRows, .ref gr_planMiners, .ref gr_planPlaces, .int gr_orders, .ref gr_orderNames, .ref gr_orderGrades, .ref gr_orderTubs, .ref gr_orderPays, .ref gr_steps, .ref gr_ruleFrom, .ref gr_ruleEnd])), (gr_grades, .inl (g 0, 72, .inl grf_grades)), (gr_planMiners, .inl (g 0, 16, .inl grf_planMiners)), (gr_planPlaces, .inl (g 0, 16, .inl grf_planPlaces))] := hD
  refine lv_aload_n hx hb dX5_begin_5 rfl (lv_at hl 0 rfl) ?_
  refine lv_iconst (v := 0) hx hb dX5_begin_6 (by decide +kernel) ?_
  refine va_put (D := D) (ci := 5) (v := .int 0) (ty := tyX5 1) (C := RX5) (T := TX5) (N := 8) hx hb hts iX5 tyX5 tyX5_ok nmX5 hown K.1 hP hD hS 0 rfl rfl 1 (by decide) (hts (.fieldLink RX5 34 "DarkMine$Pit" "purse" "I") (by decide +kernel)) (fun _ h9 => h9) rfl (by decide +kernel) rfl rfl (Nat.le_of_ble_eq_true rfl) dX5_begin_7 (fun H locs hP hD hS => ?_)
  have hP : va_P D vwCl [(pt, .inr (5, [.int 0, .int 0, .ref pt_cells, .ref pt_hurts, .ref pt_planMiners, .ref pt_planPlaces, .ref pt_sold, .ref pt_tubCounts])), (pt_cells, .inl (g 0, 72, .inl ptf_cells)), (pt_hurts, .inl (g 0, 6, .inl ptf_hurts)), (pt_planMiners, .inl (g 0, 16, .inl ptf_planMiners)), (pt_planPlaces, .inl (g 0, 16, .inl ptf_planPlaces)), (pt_sold, .inl (g 0, 5, .inl ptf_sold)), (pt_tubCounts, .inl (g 0, 10, .inl ptf_tubCounts)), (gr, .inr (2, [.int gr_columns, .int gr_rows, .int gr_shaftPlace, .int gr_reach, .int gr_quake, .ref gr_grades, .int gr_miners, .ref gr_minerNames, .int gr_planRows, .ref gr_planMiners, .ref gr_planPlaces, .int gr_orders, .ref gr_orderNames, .ref gr_orderGrades, .ref gr_orderTubs, .ref gr_orderPays, .ref gr_steps, .ref gr_ruleFrom, .ref gr_ruleEnd])), (gr_grades, .inl (g 0, 72, .inl grf_grades)), (gr_planMiners, .inl (g 0, 16, .inl grf_planMiners)), (gr_planPlaces, .inl (g 0, 16, .inl grf_planPlaces))] H := hP
  have hD : va_D A [(pt, .inr (5, [.int 0, .int 0, .ref pt_cells, .ref pt_hurts, .ref pt_planMiners, .ref pt_planPlaces, .ref pt_sold, .ref pt_tubCounts])), (pt_cells, .inl (g 0, 72, .inl ptf_cells)), (pt_hurts, .inl (g 0, 6, .inl ptf_hurts)), (pt_planMiners, .inl (g 0, 16, .inl ptf_planMiners)), (pt_planPlaces, .inl (g 0, 16, .inl ptf_planPlaces)), (pt_sold, .inl (g 0, 5, .inl ptf_sold)), (pt_tubCounts, .inl (g 0, 10, .inl ptf_tubCounts)), (gr, .inr (2, [.int gr_columns, .int gr_rows, .int gr_shaftPlace, .int gr_reach, .int gr_quake, .ref gr_grades, .int gr_miners, .ref gr_minerNames, .int gr_planRows, .ref gr_planMiners, .ref gr_planPlaces, .int gr_orders, .ref gr_orderNames, .ref gr_orderGrades, .ref gr_orderTubs, .ref gr_orderPays, .ref gr_steps, .ref gr_ruleFrom, .ref gr_ruleEnd])), (gr_grades, .inl (g 0, 72, .inl grf_grades)), (gr_planMiners, .inl (g 0, 16, .inl grf_planMiners)), (gr_planPlaces, .inl (g 0, 16, .inl grf_planPlaces))] := hD
  refine lv_aload_n hx hb dX5_begin_10 rfl (lv_at hl 0 rfl) ?_
  refine va_get (C := RX5) (T := TX5) (N := 8) hx hb hts iX5 hown K.1 hP 0 rfl rfl 2 (by decide) (hts (.fieldLink RX5 9 "DarkMine$Pit" "cells" "[I") (by decide +kernel)) (fun _ h9 => h9) (v := .ref pt_cells) rfl dX5_begin_11 ?_
  refine lv_bipush (v := 100) hx hb dX5_begin_14 (by decide +kernel) ?_
  refine dk_backv hP hD hS hA (wr := [(pt, .inr (5, [.int 0, .int 0, .ref pt_cells, .ref pt_hurts, .ref pt_planMiners, .ref pt_planPlaces, .ref pt_sold, .ref pt_tubCounts])), (pt_hurts, .inl (g 0, 6, .inl ptf_hurts)), (pt_planMiners, .inl (g 0, 16, .inl ptf_planMiners)), (pt_planPlaces, .inl (g 0, 16, .inl ptf_planPlaces)), (pt_sold, .inl (g 0, 5, .inl ptf_sold)), (pt_tubCounts, .inl (g 0, 10, .inl ptf_tubCounts)), (gr, .inr (2, [.int gr_columns, .int gr_rows, .int gr_shaftPlace, .int gr_reach, .int gr_quake, .ref gr_grades, .int gr_miners, .ref gr_minerNames, .int gr_planRows, .ref gr_planMiners, .ref gr_planPlaces, .int gr_orders, .ref gr_orderNames, .ref gr_orderGrades, .ref gr_orderTubs, .ref gr_orderPays, .ref gr_steps, .ref gr_ruleFrom, .ref gr_ruleEnd])), (gr_grades, .inl (g 0, 72, .inl grf_grades)), (gr_planMiners, .inl (g 0, 16, .inl grf_planMiners)), (gr_planPlaces, .inl (g 0, 16, .inl grf_planPlaces))]) [1] [0, 2, 3, 4, 5, 6, 7, 8, 9, 10] rfl rfl (by decide) (by decide) (va_runS (As := [.ref pt_cells, .int 100]) (rest := []) F (c_fill_72 l g D pt_cells ptf_cells 100 H.size) (va_cwS 2 hts gX5_begin_J7_fill_53178 rfl rfl rfl (by decide +kernel) ⟨Nat.le_of_ble_eq_true rfl, Nat.le_of_ble_eq_true rfl⟩) (dk_preS K ST hP hD hS hA [1] rfl (by decide)) rfl rfl hl.1 rfl (lv_room (Nat.le_of_ble_eq_true rfl)) dX5_begin_16 ⟨Nat.le_of_ble_eq_true rfl, Nat.le_of_ble_eq_true rfl⟩) (fun u H locs hw hP hD hS => ?_)
  have hP : va_P D vwCl [(pt, .inr (5, [.int 0, .int 0, .ref pt_cells, .ref pt_hurts, .ref pt_planMiners, .ref pt_planPlaces, .ref pt_sold, .ref pt_tubCounts])), (pt_hurts, .inl (g 0, 6, .inl ptf_hurts)), (pt_planMiners, .inl (g 0, 16, .inl ptf_planMiners)), (pt_planPlaces, .inl (g 0, 16, .inl ptf_planPlaces)), (pt_sold, .inl (g 0, 5, .inl ptf_sold)), (pt_tubCounts, .inl (g 0, 10, .inl ptf_tubCounts)), (gr, .inr (2, [.int gr_columns, .int gr_rows, .int gr_shaftPlace, .int gr_reach, .int gr_quake, .ref gr_grades, .int gr_miners, .ref gr_minerNames, .int gr_planRows, .ref gr_planMiners, .ref gr_planPlaces, .int gr_orders, .ref gr_orderNames, .ref gr_orderGrades, .ref gr_orderTubs, .ref gr_orderPays, .ref gr_steps, .ref gr_ruleFrom, .ref gr_ruleEnd])), (gr_grades, .inl (g 0, 72, .inl grf_grades)), (gr_planMiners, .inl (g 0, 16, .inl grf_planMiners)), (gr_planPlaces, .inl (g 0, 16, .inl grf_planPlaces)), (pt_cells, .inl (g 0, 72, .inl (fun _ => 100)))] H := hP
  have hD : va_D A [(pt, .inr (5, [.int 0, .int 0, .ref pt_cells, .ref pt_hurts, .ref pt_planMiners, .ref pt_planPlaces, .ref pt_sold, .ref pt_tubCounts])), (pt_hurts, .inl (g 0, 6, .inl ptf_hurts)), (pt_planMiners, .inl (g 0, 16, .inl ptf_planMiners)), (pt_planPlaces, .inl (g 0, 16, .inl ptf_planPlaces)), (pt_sold, .inl (g 0, 5, .inl ptf_sold)), (pt_tubCounts, .inl (g 0, 10, .inl ptf_tubCounts)), (gr, .inr (2, [.int gr_columns, .int gr_rows, .int gr_shaftPlace, .int gr_reach, .int gr_quake, .ref gr_grades, .int gr_miners, .ref gr_minerNames, .int gr_planRows, .ref gr_planMiners, .ref gr_planPlaces, .int gr_orders, .ref gr_orderNames, .ref gr_orderGrades, .ref gr_orderTubs, .ref gr_orderPays, .ref gr_steps, .ref gr_ruleFrom, .ref gr_ruleEnd])), (gr_grades, .inl (g 0, 72, .inl grf_grades)), (gr_planMiners, .inl (g 0, 16, .inl grf_planMiners)), (gr_planPlaces, .inl (g 0, 16, .inl grf_planPlaces)), (pt_cells, .inl (g 0, 72, .inl (fun _ => 100)))] := hD
  refine lv_iconst (v := 0) hx hb dX5_begin_19 (by decide +kernel) ?_
  refine lv_istore_n (lv' := [(2, .int 0), (0, .ref pt), (1, .ref gr)]) hx hb dX5_begin_20 rfl hl (by decide) rfl (fun ls hl => ?_)
  have loop_2 : ∀ (n : Nat) (i_1 : Int32) (f_3 : Nat → Int32), 0 ≤ (i_1).toInt → (dk_row 72 f_3 dk_Pcel) → (gr_rows).toInt - (i_1).toInt = (n : Int) → ∀ (H : Heap) (locs : List Loc), va_P D vwCl [(pt, .inr (5, [.int 0, .int 0, .ref pt_cells, .ref pt_hurts, .ref pt_planMiners, .ref pt_planPlaces, .ref pt_sold, .ref pt_tubCounts])), (pt_hurts, .inl (g 0, 6, .inl ptf_hurts)), (pt_planMiners, .inl (g 0, 16, .inl ptf_planMiners)), (pt_planPlaces, .inl (g 0, 16, .inl ptf_planPlaces)), (pt_sold, .inl (g 0, 5, .inl ptf_sold)), (pt_tubCounts, .inl (g 0, 10, .inl ptf_tubCounts)), (gr, .inr (2, [.int gr_columns, .int gr_rows, .int gr_shaftPlace, .int gr_reach, .int gr_quake, .ref gr_grades, .int gr_miners, .ref gr_minerNames, .int gr_planRows, .ref gr_planMiners, .ref gr_planPlaces, .int gr_orders, .ref gr_orderNames, .ref gr_orderGrades, .ref gr_orderTubs, .ref gr_orderPays, .ref gr_steps, .ref gr_ruleFrom, .ref gr_ruleEnd])), (gr_grades, .inl (g 0, 72, .inl grf_grades)), (gr_planMiners, .inl (g 0, 16, .inl grf_planMiners)), (gr_planPlaces, .inl (g 0, 16, .inl grf_planPlaces)), (pt_cells, .inl (g 0, 72, .inl f_3))] H → va_D A [(pt, .inr (5, [.int 0, .int 0, .ref pt_cells, .ref pt_hurts, .ref pt_planMiners, .ref pt_planPlaces, .ref pt_sold, .ref pt_tubCounts])), (pt_hurts, .inl (g 0, 6, .inl ptf_hurts)), (pt_planMiners, .inl (g 0, 16, .inl ptf_planMiners)), (pt_planPlaces, .inl (g 0, 16, .inl ptf_planPlaces)), (pt_sold, .inl (g 0, 5, .inl ptf_sold)), (pt_tubCounts, .inl (g 0, 10, .inl ptf_tubCounts)), (gr, .inr (2, [.int gr_columns, .int gr_rows, .int gr_shaftPlace, .int gr_reach, .int gr_quake, .ref gr_grades, .int gr_miners, .ref gr_minerNames, .int gr_planRows, .ref gr_planMiners, .ref gr_planPlaces, .int gr_orders, .ref gr_orderNames, .ref gr_orderGrades, .ref gr_orderTubs, .ref gr_orderPays, .ref gr_steps, .ref gr_ruleFrom, .ref gr_ruleEnd])), (gr_grades, .inl (g 0, 72, .inl grf_grades)), (gr_planMiners, .inl (g 0, 16, .inl grf_planMiners)), (gr_planPlaces, .inl (g 0, 16, .inl grf_planPlaces)), (pt_cells, .inl (g 0, 72, .inl f_3))] → va_S A s.heap H locs → ∀ ls : Array Slot, lv_has ls 4 [(2, .int i_1), (0, .ref pt), (1, .ref gr)] → W p l e ({ frames := 2, cells := 0, slots := 0, locals := 55 } : Room) s m args below meth c H locs (0) (0) (MQ below (va_Qv (fun (u : (Nat → Int32) × (Nat → Int32) × (Nat → Int32)) => dk_row 72 u.1 dk_Pcel ∧ dk_all 16 u.2.1 0 5 ∧ dk_row 16 u.2.2 (dk_Ppl gr_planRows) ∧ True) (dk_B D A (fun (u : (Nat → Int32) × (Nat → Int32) × (Nat → Int32)) => [(pt, .inr (5, [.int 0, .int 0, .ref pt_cells, .ref pt_hurts, .ref pt_planMiners, .ref pt_planPlaces, .ref pt_sold, .ref pt_tubCounts])), (pt_cells, .inl (g 0, 72, .inl u.1)), (pt_hurts, .inl (g 0, 6, .inl (fun _ => 0))), (pt_planMiners, .inl (g 0, 16, .inl u.2.1)), (pt_planPlaces, .inl (g 0, 16, .inl u.2.2)), (pt_sold, .inl (g 0, 5, .inl (fun _ => 0))), (pt_tubCounts, .inl (g 0, 10, .inl (fun _ => 0))), (gr, .inr (2, [.int gr_columns, .int gr_rows, .int gr_shaftPlace, .int gr_reach, .int gr_quake, .ref gr_grades, .int gr_miners, .ref gr_minerNames, .int gr_planRows, .ref gr_planMiners, .ref gr_planPlaces, .int gr_orders, .ref gr_orderNames, .ref gr_orderGrades, .ref gr_orderTubs, .ref gr_orderPays, .ref gr_steps, .ref gr_ruleFrom, .ref gr_ruleEnd])), (gr_grades, .inl (g 0, 72, .inl grf_grades)), (gr_planMiners, .inl (g 0, 16, .inl grf_planMiners)), (gr_planPlaces, .inl (g 0, 16, .inl grf_planPlaces))])) A) args s 0 0 A) (F0 m 21 ls []) := by
    intro n
    induction n with
    | zero =>
      intro i_1 f_3 blo_i_1 b_f_3 hm H locs hP hD hS ls hl
      refine lv_iload_n hx hb dX5_begin_21 rfl (lv_at hl 0 rfl) ?_
      refine lv_aload_n hx hb dX5_begin_22 rfl (lv_at hl 2 rfl) ?_
      refine va_get (C := RX2) (T := TX2) (N := 19) hx hb hts iX2 hown K.1 hP 6 rfl rfl 1 (by decide) (hts (.fieldLink RX5 43 "DarkMine$Ground" "rows" "I") (by decide +kernel)) (fun _ h9 => h9) (v := .int gr_rows) rfl dX5_begin_23 ?_
      refine lv_icmp_ge (tgt := 60) hx hb dX5_begin_26 (by decide) (fun _ => ?_) (fun c => absurd (dk_lep (k := (i_1).toInt) rfl (by omega)) c)
      refine lv_aload_n hx hb dX5_begin_60 rfl (lv_at hl 2 rfl) ?_
      refine dk_backi hP hD hS hA (wr := [(pt, .inr (5, [.int 0, .int 0, .ref pt_cells, .ref pt_hurts, .ref pt_planMiners, .ref pt_planPlaces, .ref pt_sold, .ref pt_tubCounts])), (pt_hurts, .inl (g 0, 6, .inl ptf_hurts)), (pt_planMiners, .inl (g 0, 16, .inl ptf_planMiners)), (pt_planPlaces, .inl (g 0, 16, .inl ptf_planPlaces)), (pt_sold, .inl (g 0, 5, .inl ptf_sold)), (pt_tubCounts, .inl (g 0, 10, .inl ptf_tubCounts)), (gr_grades, .inl (g 0, 72, .inl grf_grades)), (gr_planMiners, .inl (g 0, 16, .inl grf_planMiners)), (gr_planPlaces, .inl (g 0, 16, .inl grf_planPlaces)), (pt_cells, .inl (g 0, 72, .inl f_3))]) [6] [0, 1, 2, 3, 4, 5, 7, 8, 9, 10] rfl rfl (by decide) (by decide) (va_runV (As := []) (rest := []) F (c_g_hasSeam l g D gr gr_columns gr_rows gr_shaftPlace gr_reach gr_quake gr_grades gr_miners gr_minerNames gr_planRows gr_planMiners gr_planPlaces gr_orders gr_orderNames gr_orderGrades gr_orderTubs gr_orderPays gr_steps gr_ruleFrom gr_ruleEnd (by omega) (by omega) (by omega) (by omega) (by omega) (by omega) (by omega) (by omega) H.size) (cwV 0 hts gX5_begin_X2_hasSeam rfl rfl rfl (by decide +kernel) ⟨Nat.le_of_ble_eq_true rfl, Nat.le_of_ble_eq_true rfl⟩) (dk_preV K ST hP hD hS hA [6] rfl (by decide) 6 rfl rfl) rfl rfl hl.1 rfl (lv_room (Nat.le_of_ble_eq_true rfl)) dX5_begin_61 ⟨Nat.le_of_ble_eq_true rfl, Nat.le_of_ble_eq_true rfl⟩) (fun r u H locs hw hP hD hS => ?_)
      obtain ⟨x_6, rfl⟩ : ∃ z, z = r := ⟨_, rfl⟩
      obtain ⟨w_4, w_5, -⟩ := hw
      have w_4 : 0 ≤ (x_6).toInt ∧ (x_6).toInt ≤ 1 := w_4
      have w_5 : (x_6).toInt = 1 ↔ 0 < (gr_columns).toInt := w_5
      have hP : va_P D vwCl [(pt, .inr (5, [.int 0, .int 0, .ref pt_cells, .ref pt_hurts, .ref pt_planMiners, .ref pt_planPlaces, .ref pt_sold, .ref pt_tubCounts])), (pt_hurts, .inl (g 0, 6, .inl ptf_hurts)), (pt_planMiners, .inl (g 0, 16, .inl ptf_planMiners)), (pt_planPlaces, .inl (g 0, 16, .inl ptf_planPlaces)), (pt_sold, .inl (g 0, 5, .inl ptf_sold)), (pt_tubCounts, .inl (g 0, 10, .inl ptf_tubCounts)), (gr_grades, .inl (g 0, 72, .inl grf_grades)), (gr_planMiners, .inl (g 0, 16, .inl grf_planMiners)), (gr_planPlaces, .inl (g 0, 16, .inl grf_planPlaces)), (pt_cells, .inl (g 0, 72, .inl f_3)), (gr, .inr (2, [.int gr_columns, .int gr_rows, .int gr_shaftPlace, .int gr_reach, .int gr_quake, .ref gr_grades, .int gr_miners, .ref gr_minerNames, .int gr_planRows, .ref gr_planMiners, .ref gr_planPlaces, .int gr_orders, .ref gr_orderNames, .ref gr_orderGrades, .ref gr_orderTubs, .ref gr_orderPays, .ref gr_steps, .ref gr_ruleFrom, .ref gr_ruleEnd]))] H := hP
      have hD : va_D A [(pt, .inr (5, [.int 0, .int 0, .ref pt_cells, .ref pt_hurts, .ref pt_planMiners, .ref pt_planPlaces, .ref pt_sold, .ref pt_tubCounts])), (pt_hurts, .inl (g 0, 6, .inl ptf_hurts)), (pt_planMiners, .inl (g 0, 16, .inl ptf_planMiners)), (pt_planPlaces, .inl (g 0, 16, .inl ptf_planPlaces)), (pt_sold, .inl (g 0, 5, .inl ptf_sold)), (pt_tubCounts, .inl (g 0, 10, .inl ptf_tubCounts)), (gr_grades, .inl (g 0, 72, .inl grf_grades)), (gr_planMiners, .inl (g 0, 16, .inl grf_planMiners)), (gr_planPlaces, .inl (g 0, 16, .inl grf_planPlaces)), (pt_cells, .inl (g 0, 72, .inl f_3)), (gr, .inr (2, [.int gr_columns, .int gr_rows, .int gr_shaftPlace, .int gr_reach, .int gr_quake, .ref gr_grades, .int gr_miners, .ref gr_minerNames, .int gr_planRows, .ref gr_planMiners, .ref gr_planPlaces, .int gr_orders, .ref gr_orderNames, .ref gr_orderGrades, .ref gr_orderTubs, .ref gr_orderPays, .ref gr_steps, .ref gr_ruleFrom, .ref gr_ruleEnd]))] := hD
      refine lv_if_eq (tgt := 79) hx hb dX5_begin_64 (by decide) (fun c_7 => ?_) (fun c_7 => ?_)
      · have jc_7 := dk_eqc (k := 0) (by decide +kernel) c_7
        refine lv_aload_n hx hb dX5_begin_79 rfl (lv_at hl 1 rfl) ?_
        refine va_get (C := RX5) (T := TX5) (N := 8) hx hb hts iX5 hown K.1 hP 0 rfl rfl 3 (by decide) (hts (.fieldLink RX5 15 "DarkMine$Pit" "hurts" "[I") (by decide +kernel)) (fun _ h9 => h9) (v := .ref pt_hurts) rfl dX5_begin_80 ?_
        refine lv_iconst (v := 0) hx hb dX5_begin_83 (by decide +kernel) ?_
        refine dk_backv hP hD hS hA (wr := [(pt, .inr (5, [.int 0, .int 0, .ref pt_cells, .ref pt_hurts, .ref pt_planMiners, .ref pt_planPlaces, .ref pt_sold, .ref pt_tubCounts])), (pt_planMiners, .inl (g 0, 16, .inl ptf_planMiners)), (pt_planPlaces, .inl (g 0, 16, .inl ptf_planPlaces)), (pt_sold, .inl (g 0, 5, .inl ptf_sold)), (pt_tubCounts, .inl (g 0, 10, .inl ptf_tubCounts)), (gr_grades, .inl (g 0, 72, .inl grf_grades)), (gr_planMiners, .inl (g 0, 16, .inl grf_planMiners)), (gr_planPlaces, .inl (g 0, 16, .inl grf_planPlaces)), (pt_cells, .inl (g 0, 72, .inl f_3)), (gr, .inr (2, [.int gr_columns, .int gr_rows, .int gr_shaftPlace, .int gr_reach, .int gr_quake, .ref gr_grades, .int gr_miners, .ref gr_minerNames, .int gr_planRows, .ref gr_planMiners, .ref gr_planPlaces, .int gr_orders, .ref gr_orderNames, .ref gr_orderGrades, .ref gr_orderTubs, .ref gr_orderPays, .ref gr_steps, .ref gr_ruleFrom, .ref gr_ruleEnd]))]) [1] [0, 2, 3, 4, 5, 6, 7, 8, 9, 10] rfl rfl (by decide) (by decide) (va_runS (As := [.ref pt_hurts, .int 0]) (rest := []) F (c_fill_6 l g D pt_hurts ptf_hurts 0 H.size) (va_cwS 2 hts gX5_begin_J7_fill_53178 rfl rfl rfl (by decide +kernel) ⟨Nat.le_of_ble_eq_true rfl, Nat.le_of_ble_eq_true rfl⟩) (dk_preS K ST hP hD hS hA [1] rfl (by decide)) rfl rfl hl.1 rfl (lv_room (Nat.le_of_ble_eq_true rfl)) dX5_begin_84 ⟨Nat.le_of_ble_eq_true rfl, Nat.le_of_ble_eq_true rfl⟩) (fun u H locs hw hP hD hS => ?_)
        have hP : va_P D vwCl [(pt, .inr (5, [.int 0, .int 0, .ref pt_cells, .ref pt_hurts, .ref pt_planMiners, .ref pt_planPlaces, .ref pt_sold, .ref pt_tubCounts])), (pt_planMiners, .inl (g 0, 16, .inl ptf_planMiners)), (pt_planPlaces, .inl (g 0, 16, .inl ptf_planPlaces)), (pt_sold, .inl (g 0, 5, .inl ptf_sold)), (pt_tubCounts, .inl (g 0, 10, .inl ptf_tubCounts)), (gr_grades, .inl (g 0, 72, .inl grf_grades)), (gr_planMiners, .inl (g 0, 16, .inl grf_planMiners)), (gr_planPlaces, .inl (g 0, 16, .inl grf_planPlaces)), (pt_cells, .inl (g 0, 72, .inl f_3)), (gr, .inr (2, [.int gr_columns, .int gr_rows, .int gr_shaftPlace, .int gr_reach, .int gr_quake, .ref gr_grades, .int gr_miners, .ref gr_minerNames, .int gr_planRows, .ref gr_planMiners, .ref gr_planPlaces, .int gr_orders, .ref gr_orderNames, .ref gr_orderGrades, .ref gr_orderTubs, .ref gr_orderPays, .ref gr_steps, .ref gr_ruleFrom, .ref gr_ruleEnd])), (pt_hurts, .inl (g 0, 6, .inl (fun _ => 0)))] H := hP
        have hD : va_D A [(pt, .inr (5, [.int 0, .int 0, .ref pt_cells, .ref pt_hurts, .ref pt_planMiners, .ref pt_planPlaces, .ref pt_sold, .ref pt_tubCounts])), (pt_planMiners, .inl (g 0, 16, .inl ptf_planMiners)), (pt_planPlaces, .inl (g 0, 16, .inl ptf_planPlaces)), (pt_sold, .inl (g 0, 5, .inl ptf_sold)), (pt_tubCounts, .inl (g 0, 10, .inl ptf_tubCounts)), (gr_grades, .inl (g 0, 72, .inl grf_grades)), (gr_planMiners, .inl (g 0, 16, .inl grf_planMiners)), (gr_planPlaces, .inl (g 0, 16, .inl grf_planPlaces)), (pt_cells, .inl (g 0, 72, .inl f_3)), (gr, .inr (2, [.int gr_columns, .int gr_rows, .int gr_shaftPlace, .int gr_reach, .int gr_quake, .ref gr_grades, .int gr_miners, .ref gr_minerNames, .int gr_planRows, .ref gr_planMiners, .ref gr_planPlaces, .int gr_orders, .ref gr_orderNames, .ref gr_orderGrades, .ref gr_orderTubs, .ref gr_orderPays, .ref gr_steps, .ref gr_ruleFrom, .ref gr_ruleEnd])), (pt_hurts, .inl (g 0, 6, .inl (fun _ => 0)))] := hD
        refine lv_aload_n hx hb dX5_begin_87 rfl (lv_at hl 2 rfl) ?_
        refine va_get (C := RX2) (T := TX2) (N := 19) hx hb hts iX2 hown K.1 hP 9 rfl rfl 9 (by decide) (hts (.fieldLink RX5 67 "DarkMine$Ground" "planMiners" "[I") (by decide +kernel)) (fun _ h9 => h9) (v := .ref gr_planMiners) rfl dX5_begin_88 ?_
        refine lv_iconst (v := 0) hx hb dX5_begin_91 (by decide +kernel) ?_
        refine lv_aload_n hx hb dX5_begin_92 rfl (lv_at hl 1 rfl) ?_
        refine va_get (C := RX5) (T := TX5) (N := 8) hx hb hts iX5 hown K.1 hP 0 rfl rfl 4 (by decide) (hts (.fieldLink RX5 18 "DarkMine$Pit" "planMiners" "[I") (by decide +kernel)) (fun _ h9 => h9) (v := .ref pt_planMiners) rfl dX5_begin_93 ?_
        refine lv_iconst (v := 0) hx hb dX5_begin_96 (by decide +kernel) ?_
        refine lv_bipush (v := 16) hx hb dX5_begin_97 (by decide +kernel) ?_
        have hz_9 : (16 : Int32).toInt = 16 := by decide +kernel
        have hz_10 : (0 : Int32).toInt = 0 := by decide +kernel
        have hz_11 : (0 : Int32).toInt = 0 := by decide +kernel
        have hc_12 : (0 : Int32).toNatClampNeg + (16 : Int32).toNatClampNeg ≤ 16 := (by rw [dk_clN, dk_clN]; omega)
        obtain ⟨f_8, hf_8⟩ : ∃ f' : Nat → Int32, f' = va_cpy grf_planMiners ptf_planMiners (0 : Int32).toNatClampNeg (0 : Int32).toNatClampNeg (16 : Int32).toNatClampNeg := ⟨_, rfl⟩
        have jf_8 : dk_all 16 f_8 0 5 := by rw [hf_8]; exact dk_all_cpy (n0 := 16) b_grf_planMiners b_ptf_planMiners _ _ _ hc_12
        refine va_copyi hx hb (by rw [hml]; exact hl.1.symm) hown (hts (.methodLink RX5 54 arraycopyName) (by decide +kernel)) (hts (.native arraycopyName) (by decide +kernel)) (hts (.static arraycopyName) (by decide +kernel)) (hts (.initialized "java/lang/System") (by decide +kernel)) K.1 hP hD hS 6 1 0 0 rfl rfl rfl rfl rfl (dk_nneg (by omega)) (dk_nneg (by omega)) (dk_nneg (by omega)) hc_12 (by rw [dk_clN, dk_clN]; omega) (fun _ _ => rfl) (Nat.le_of_ble_eq_true rfl) (Nat.le_of_ble_eq_true rfl) dX5_begin_99 (fun H locs hP hD hS => ?_)
        rw [← hf_8] at hP hD
        have hP : va_P D vwCl [(pt, .inr (5, [.int 0, .int 0, .ref pt_cells, .ref pt_hurts, .ref pt_planMiners, .ref pt_planPlaces, .ref pt_sold, .ref pt_tubCounts])), (pt_planMiners, .inl (g 0, 16, .inl f_8)), (pt_planPlaces, .inl (g 0, 16, .inl ptf_planPlaces)), (pt_sold, .inl (g 0, 5, .inl ptf_sold)), (pt_tubCounts, .inl (g 0, 10, .inl ptf_tubCounts)), (gr_grades, .inl (g 0, 72, .inl grf_grades)), (gr_planMiners, .inl (g 0, 16, .inl grf_planMiners)), (gr_planPlaces, .inl (g 0, 16, .inl grf_planPlaces)), (pt_cells, .inl (g 0, 72, .inl f_3)), (gr, .inr (2, [.int gr_columns, .int gr_rows, .int gr_shaftPlace, .int gr_reach, .int gr_quake, .ref gr_grades, .int gr_miners, .ref gr_minerNames, .int gr_planRows, .ref gr_planMiners, .ref gr_planPlaces, .int gr_orders, .ref gr_orderNames, .ref gr_orderGrades, .ref gr_orderTubs, .ref gr_orderPays, .ref gr_steps, .ref gr_ruleFrom, .ref gr_ruleEnd])), (pt_hurts, .inl (g 0, 6, .inl (fun _ => 0)))] H := hP
        have hD : va_D A [(pt, .inr (5, [.int 0, .int 0, .ref pt_cells, .ref pt_hurts, .ref pt_planMiners, .ref pt_planPlaces, .ref pt_sold, .ref pt_tubCounts])), (pt_planMiners, .inl (g 0, 16, .inl f_8)), (pt_planPlaces, .inl (g 0, 16, .inl ptf_planPlaces)), (pt_sold, .inl (g 0, 5, .inl ptf_sold)), (pt_tubCounts, .inl (g 0, 10, .inl ptf_tubCounts)), (gr_grades, .inl (g 0, 72, .inl grf_grades)), (gr_planMiners, .inl (g 0, 16, .inl grf_planMiners)), (gr_planPlaces, .inl (g 0, 16, .inl grf_planPlaces)), (pt_cells, .inl (g 0, 72, .inl f_3)), (gr, .inr (2, [.int gr_columns, .int gr_rows, .int gr_shaftPlace, .int gr_reach, .int gr_quake, .ref gr_grades, .int gr_miners, .ref gr_minerNames, .int gr_planRows, .ref gr_planMiners, .ref gr_planPlaces, .int gr_orders, .ref gr_orderNames, .ref gr_orderGrades, .ref gr_orderTubs, .ref gr_orderPays, .ref gr_steps, .ref gr_ruleFrom, .ref gr_ruleEnd])), (pt_hurts, .inl (g 0, 6, .inl (fun _ => 0)))] := hD
        refine lv_aload_n hx hb dX5_begin_102 rfl (lv_at hl 2 rfl) ?_
        refine va_get (C := RX2) (T := TX2) (N := 19) hx hb hts iX2 hown K.1 hP 9 rfl rfl 10 (by decide) (hts (.fieldLink RX5 68 "DarkMine$Ground" "planPlaces" "[I") (by decide +kernel)) (fun _ h9 => h9) (v := .ref gr_planPlaces) rfl dX5_begin_103 ?_
        refine lv_iconst (v := 0) hx hb dX5_begin_106 (by decide +kernel) ?_
        refine lv_aload_n hx hb dX5_begin_107 rfl (lv_at hl 1 rfl) ?_
        refine va_get (C := RX5) (T := TX5) (N := 8) hx hb hts iX5 hown K.1 hP 0 rfl rfl 5 (by decide) (hts (.fieldLink RX5 21 "DarkMine$Pit" "planPlaces" "[I") (by decide +kernel)) (fun _ h9 => h9) (v := .ref pt_planPlaces) rfl dX5_begin_108 ?_
        refine lv_iconst (v := 0) hx hb dX5_begin_111 (by decide +kernel) ?_
        refine lv_bipush (v := 16) hx hb dX5_begin_112 (by decide +kernel) ?_
        have hz_14 : (16 : Int32).toInt = 16 := by decide +kernel
        have hz_15 : (0 : Int32).toInt = 0 := by decide +kernel
        have hz_16 : (0 : Int32).toInt = 0 := by decide +kernel
        have hc_17 : (0 : Int32).toNatClampNeg + (16 : Int32).toNatClampNeg ≤ 16 := (by rw [dk_clN, dk_clN]; omega)
        obtain ⟨f_13, hf_13⟩ : ∃ f' : Nat → Int32, f' = va_cpy grf_planPlaces ptf_planPlaces (0 : Int32).toNatClampNeg (0 : Int32).toNatClampNeg (16 : Int32).toNatClampNeg := ⟨_, rfl⟩
        have jf_13 : dk_row 16 f_13 (dk_Ppl gr_planRows) := by rw [hf_13]; exact dk_row_cpyA (n0 := 16) b_grf_planPlaces _ _ _ (by decide +kernel) (by decide +kernel) (by decide +kernel) hc_17
        refine va_copyi hx hb (by rw [hml]; exact hl.1.symm) hown (hts (.methodLink RX5 54 arraycopyName) (by decide +kernel)) (hts (.native arraycopyName) (by decide +kernel)) (hts (.static arraycopyName) (by decide +kernel)) (hts (.initialized "java/lang/System") (by decide +kernel)) K.1 hP hD hS 7 2 0 0 rfl rfl rfl rfl rfl (dk_nneg (by omega)) (dk_nneg (by omega)) (dk_nneg (by omega)) hc_17 (by rw [dk_clN, dk_clN]; omega) (fun _ _ => rfl) (Nat.le_of_ble_eq_true rfl) (Nat.le_of_ble_eq_true rfl) dX5_begin_114 (fun H locs hP hD hS => ?_)
        rw [← hf_13] at hP hD
        have hP : va_P D vwCl [(pt, .inr (5, [.int 0, .int 0, .ref pt_cells, .ref pt_hurts, .ref pt_planMiners, .ref pt_planPlaces, .ref pt_sold, .ref pt_tubCounts])), (pt_planMiners, .inl (g 0, 16, .inl f_8)), (pt_planPlaces, .inl (g 0, 16, .inl f_13)), (pt_sold, .inl (g 0, 5, .inl ptf_sold)), (pt_tubCounts, .inl (g 0, 10, .inl ptf_tubCounts)), (gr_grades, .inl (g 0, 72, .inl grf_grades)), (gr_planMiners, .inl (g 0, 16, .inl grf_planMiners)), (gr_planPlaces, .inl (g 0, 16, .inl grf_planPlaces)), (pt_cells, .inl (g 0, 72, .inl f_3)), (gr, .inr (2, [.int gr_columns, .int gr_rows, .int gr_shaftPlace, .int gr_reach, .int gr_quake, .ref gr_grades, .int gr_miners, .ref gr_minerNames, .int gr_planRows, .ref gr_planMiners, .ref gr_planPlaces, .int gr_orders, .ref gr_orderNames, .ref gr_orderGrades, .ref gr_orderTubs, .ref gr_orderPays, .ref gr_steps, .ref gr_ruleFrom, .ref gr_ruleEnd])), (pt_hurts, .inl (g 0, 6, .inl (fun _ => 0)))] H := hP
        have hD : va_D A [(pt, .inr (5, [.int 0, .int 0, .ref pt_cells, .ref pt_hurts, .ref pt_planMiners, .ref pt_planPlaces, .ref pt_sold, .ref pt_tubCounts])), (pt_planMiners, .inl (g 0, 16, .inl f_8)), (pt_planPlaces, .inl (g 0, 16, .inl f_13)), (pt_sold, .inl (g 0, 5, .inl ptf_sold)), (pt_tubCounts, .inl (g 0, 10, .inl ptf_tubCounts)), (gr_grades, .inl (g 0, 72, .inl grf_grades)), (gr_planMiners, .inl (g 0, 16, .inl grf_planMiners)), (gr_planPlaces, .inl (g 0, 16, .inl grf_planPlaces)), (pt_cells, .inl (g 0, 72, .inl f_3)), (gr, .inr (2, [.int gr_columns, .int gr_rows, .int gr_shaftPlace, .int gr_reach, .int gr_quake, .ref gr_grades, .int gr_miners, .ref gr_minerNames, .int gr_planRows, .ref gr_planMiners, .ref gr_planPlaces, .int gr_orders, .ref gr_orderNames, .ref gr_orderGrades, .ref gr_orderTubs, .ref gr_orderPays, .ref gr_steps, .ref gr_ruleFrom, .ref gr_ruleEnd])), (pt_hurts, .inl (g 0, 6, .inl (fun _ => 0)))] := hD
        refine lv_aload_n hx hb dX5_begin_117 rfl (lv_at hl 1 rfl) ?_
        refine va_get (C := RX5) (T := TX5) (N := 8) hx hb hts iX5 hown K.1 hP 0 rfl rfl 6 (by decide) (hts (.fieldLink RX5 24 "DarkMine$Pit" "sold" "[I") (by decide +kernel)) (fun _ h9 => h9) (v := .ref pt_sold) rfl dX5_begin_118 ?_
        refine lv_iconst (v := 0) hx hb dX5_begin_121 (by decide +kernel) ?_
        refine dk_backv hP hD hS hA (wr := [(pt, .inr (5, [.int 0, .int 0, .ref pt_cells, .ref pt_hurts, .ref pt_planMiners, .ref pt_planPlaces, .ref pt_sold, .ref pt_tubCounts])), (pt_planMiners, .inl (g 0, 16, .inl f_8)), (pt_planPlaces, .inl (g 0, 16, .inl f_13)), (pt_tubCounts, .inl (g 0, 10, .inl ptf_tubCounts)), (gr_grades, .inl (g 0, 72, .inl grf_grades)), (gr_planMiners, .inl (g 0, 16, .inl grf_planMiners)), (gr_planPlaces, .inl (g 0, 16, .inl grf_planPlaces)), (pt_cells, .inl (g 0, 72, .inl f_3)), (gr, .inr (2, [.int gr_columns, .int gr_rows, .int gr_shaftPlace, .int gr_reach, .int gr_quake, .ref gr_grades, .int gr_miners, .ref gr_minerNames, .int gr_planRows, .ref gr_planMiners, .ref gr_planPlaces, .int gr_orders, .ref gr_orderNames, .ref gr_orderGrades, .ref gr_orderTubs, .ref gr_orderPays, .ref gr_steps, .ref gr_ruleFrom, .ref gr_ruleEnd])), (pt_hurts, .inl (g 0, 6, .inl (fun _ => 0)))]) [3] [0, 1, 2, 4, 5, 6, 7, 8, 9, 10] rfl rfl (by decide) (by decide) (va_runS (As := [.ref pt_sold, .int 0]) (rest := []) F (c_fill_5 l g D pt_sold ptf_sold 0 H.size) (va_cwS 2 hts gX5_begin_J7_fill_53178 rfl rfl rfl (by decide +kernel) ⟨Nat.le_of_ble_eq_true rfl, Nat.le_of_ble_eq_true rfl⟩) (dk_preS K ST hP hD hS hA [3] rfl (by decide)) rfl rfl hl.1 rfl (lv_room (Nat.le_of_ble_eq_true rfl)) dX5_begin_122 ⟨Nat.le_of_ble_eq_true rfl, Nat.le_of_ble_eq_true rfl⟩) (fun u H locs hw hP hD hS => ?_)
        have hP : va_P D vwCl [(pt, .inr (5, [.int 0, .int 0, .ref pt_cells, .ref pt_hurts, .ref pt_planMiners, .ref pt_planPlaces, .ref pt_sold, .ref pt_tubCounts])), (pt_planMiners, .inl (g 0, 16, .inl f_8)), (pt_planPlaces, .inl (g 0, 16, .inl f_13)), (pt_tubCounts, .inl (g 0, 10, .inl ptf_tubCounts)), (gr_grades, .inl (g 0, 72, .inl grf_grades)), (gr_planMiners, .inl (g 0, 16, .inl grf_planMiners)), (gr_planPlaces, .inl (g 0, 16, .inl grf_planPlaces)), (pt_cells, .inl (g 0, 72, .inl f_3)), (gr, .inr (2, [.int gr_columns, .int gr_rows, .int gr_shaftPlace, .int gr_reach, .int gr_quake, .ref gr_grades, .int gr_miners, .ref gr_minerNames, .int gr_planRows, .ref gr_planMiners, .ref gr_planPlaces, .int gr_orders, .ref gr_orderNames, .ref gr_orderGrades, .ref gr_orderTubs, .ref gr_orderPays, .ref gr_steps, .ref gr_ruleFrom, .ref gr_ruleEnd])), (pt_hurts, .inl (g 0, 6, .inl (fun _ => 0))), (pt_sold, .inl (g 0, 5, .inl (fun _ => 0)))] H := hP
        have hD : va_D A [(pt, .inr (5, [.int 0, .int 0, .ref pt_cells, .ref pt_hurts, .ref pt_planMiners, .ref pt_planPlaces, .ref pt_sold, .ref pt_tubCounts])), (pt_planMiners, .inl (g 0, 16, .inl f_8)), (pt_planPlaces, .inl (g 0, 16, .inl f_13)), (pt_tubCounts, .inl (g 0, 10, .inl ptf_tubCounts)), (gr_grades, .inl (g 0, 72, .inl grf_grades)), (gr_planMiners, .inl (g 0, 16, .inl grf_planMiners)), (gr_planPlaces, .inl (g 0, 16, .inl grf_planPlaces)), (pt_cells, .inl (g 0, 72, .inl f_3)), (gr, .inr (2, [.int gr_columns, .int gr_rows, .int gr_shaftPlace, .int gr_reach, .int gr_quake, .ref gr_grades, .int gr_miners, .ref gr_minerNames, .int gr_planRows, .ref gr_planMiners, .ref gr_planPlaces, .int gr_orders, .ref gr_orderNames, .ref gr_orderGrades, .ref gr_orderTubs, .ref gr_orderPays, .ref gr_steps, .ref gr_ruleFrom, .ref gr_ruleEnd])), (pt_hurts, .inl (g 0, 6, .inl (fun _ => 0))), (pt_sold, .inl (g 0, 5, .inl (fun _ => 0)))] := hD
        refine lv_aload_n hx hb dX5_begin_125 rfl (lv_at hl 1 rfl) ?_
        refine va_get (C := RX5) (T := TX5) (N := 8) hx hb hts iX5 hown K.1 hP 0 rfl rfl 7 (by decide) (hts (.fieldLink RX5 27 "DarkMine$Pit" "tubCounts" "[I") (by decide +kernel)) (fun _ h9 => h9) (v := .ref pt_tubCounts) rfl dX5_begin_126 ?_
        refine lv_iconst (v := 0) hx hb dX5_begin_129 (by decide +kernel) ?_
        refine dk_backv hP hD hS hA (wr := [(pt, .inr (5, [.int 0, .int 0, .ref pt_cells, .ref pt_hurts, .ref pt_planMiners, .ref pt_planPlaces, .ref pt_sold, .ref pt_tubCounts])), (pt_planMiners, .inl (g 0, 16, .inl f_8)), (pt_planPlaces, .inl (g 0, 16, .inl f_13)), (gr_grades, .inl (g 0, 72, .inl grf_grades)), (gr_planMiners, .inl (g 0, 16, .inl grf_planMiners)), (gr_planPlaces, .inl (g 0, 16, .inl grf_planPlaces)), (pt_cells, .inl (g 0, 72, .inl f_3)), (gr, .inr (2, [.int gr_columns, .int gr_rows, .int gr_shaftPlace, .int gr_reach, .int gr_quake, .ref gr_grades, .int gr_miners, .ref gr_minerNames, .int gr_planRows, .ref gr_planMiners, .ref gr_planPlaces, .int gr_orders, .ref gr_orderNames, .ref gr_orderGrades, .ref gr_orderTubs, .ref gr_orderPays, .ref gr_steps, .ref gr_ruleFrom, .ref gr_ruleEnd])), (pt_hurts, .inl (g 0, 6, .inl (fun _ => 0))), (pt_sold, .inl (g 0, 5, .inl (fun _ => 0)))]) [3] [0, 1, 2, 4, 5, 6, 7, 8, 9, 10] rfl rfl (by decide) (by decide) (va_runS (As := [.ref pt_tubCounts, .int 0]) (rest := []) F (c_fill_10 l g D pt_tubCounts ptf_tubCounts 0 H.size) (va_cwS 2 hts gX5_begin_J7_fill_53178 rfl rfl rfl (by decide +kernel) ⟨Nat.le_of_ble_eq_true rfl, Nat.le_of_ble_eq_true rfl⟩) (dk_preS K ST hP hD hS hA [3] rfl (by decide)) rfl rfl hl.1 rfl (lv_room (Nat.le_of_ble_eq_true rfl)) dX5_begin_130 ⟨Nat.le_of_ble_eq_true rfl, Nat.le_of_ble_eq_true rfl⟩) (fun u H locs hw hP hD hS => ?_)
        have hP : va_P D vwCl [(pt, .inr (5, [.int 0, .int 0, .ref pt_cells, .ref pt_hurts, .ref pt_planMiners, .ref pt_planPlaces, .ref pt_sold, .ref pt_tubCounts])), (pt_planMiners, .inl (g 0, 16, .inl f_8)), (pt_planPlaces, .inl (g 0, 16, .inl f_13)), (gr_grades, .inl (g 0, 72, .inl grf_grades)), (gr_planMiners, .inl (g 0, 16, .inl grf_planMiners)), (gr_planPlaces, .inl (g 0, 16, .inl grf_planPlaces)), (pt_cells, .inl (g 0, 72, .inl f_3)), (gr, .inr (2, [.int gr_columns, .int gr_rows, .int gr_shaftPlace, .int gr_reach, .int gr_quake, .ref gr_grades, .int gr_miners, .ref gr_minerNames, .int gr_planRows, .ref gr_planMiners, .ref gr_planPlaces, .int gr_orders, .ref gr_orderNames, .ref gr_orderGrades, .ref gr_orderTubs, .ref gr_orderPays, .ref gr_steps, .ref gr_ruleFrom, .ref gr_ruleEnd])), (pt_hurts, .inl (g 0, 6, .inl (fun _ => 0))), (pt_sold, .inl (g 0, 5, .inl (fun _ => 0))), (pt_tubCounts, .inl (g 0, 10, .inl (fun _ => 0)))] H := hP
        have hD : va_D A [(pt, .inr (5, [.int 0, .int 0, .ref pt_cells, .ref pt_hurts, .ref pt_planMiners, .ref pt_planPlaces, .ref pt_sold, .ref pt_tubCounts])), (pt_planMiners, .inl (g 0, 16, .inl f_8)), (pt_planPlaces, .inl (g 0, 16, .inl f_13)), (gr_grades, .inl (g 0, 72, .inl grf_grades)), (gr_planMiners, .inl (g 0, 16, .inl grf_planMiners)), (gr_planPlaces, .inl (g 0, 16, .inl grf_planPlaces)), (pt_cells, .inl (g 0, 72, .inl f_3)), (gr, .inr (2, [.int gr_columns, .int gr_rows, .int gr_shaftPlace, .int gr_reach, .int gr_quake, .ref gr_grades, .int gr_miners, .ref gr_minerNames, .int gr_planRows, .ref gr_planMiners, .ref gr_planPlaces, .int gr_orders, .ref gr_orderNames, .ref gr_orderGrades, .ref gr_orderTubs, .ref gr_orderPays, .ref gr_steps, .ref gr_ruleFrom, .ref gr_ruleEnd])), (pt_hurts, .inl (g 0, 6, .inl (fun _ => 0))), (pt_sold, .inl (g 0, 5, .inl (fun _ => 0))), (pt_tubCounts, .inl (g 0, 10, .inl (fun _ => 0)))] := hD
        refine W.widen (k := 0) (n := 0) (Nat.le_of_ble_eq_true rfl) (Nat.le_of_ble_eq_true rfl) ?_
        exact dk_vret hx hb hr hlocks hP hD hS ⟨f_3, f_8, f_13⟩ [0, 6, 8, 1, 2, 9, 10, 7, 3, 4, 5] rfl (by decide) ⟨b_f_3, jf_8, jf_13, trivial⟩ dX5_begin_133
      · have jc_7 := dk_neqc (k := 0) (by decide +kernel) c_7
        refine lv_aload_n hx hb dX5_begin_67 rfl (lv_at hl 1 rfl) ?_
        refine va_get (C := RX5) (T := TX5) (N := 8) hx hb hts iX5 hown K.1 hP 0 rfl rfl 2 (by decide) (hts (.fieldLink RX5 9 "DarkMine$Pit" "cells" "[I") (by decide +kernel)) (fun _ h9 => h9) (v := .ref pt_cells) rfl dX5_begin_68 ?_
        refine lv_aload_n hx hb dX5_begin_71 rfl (lv_at hl 2 rfl) ?_
        refine va_get (C := RX2) (T := TX2) (N := 19) hx hb hts iX2 hown K.1 hP 10 rfl rfl 2 (by decide) (hts (.fieldLink RX5 64 "DarkMine$Ground" "shaftPlace" "I") (by decide +kernel)) (fun _ h9 => h9) (v := .int gr_shaftPlace) rfl dX5_begin_72 ?_
        refine lv_sipush (v := 255) hx hb dX5_begin_75 (by decide +kernel) ?_
        obtain ⟨f_18, hf_18⟩ : ∃ f', f' = upd f_3 (gr_shaftPlace : Int32).toNatClampNeg 255 := ⟨_, rfl⟩
        have hin_19 : vp_in gr_shaftPlace 72 := (dk_inv (by omega) (by omega))
        have hz_20 : (255 : Int32).toInt = 255 := by decide +kernel
        have jf_18 : dk_row 72 f_18 dk_Pcel := dk_row_upd b_f_3 hin_19 (show 0 ≤ ((255 : Int32)).toInt ∧ ((255 : Int32)).toInt ≤ 255 ∧ (254 ≤ ((255 : Int32)).toInt → 8 ≤ (gr_shaftPlace : Int32).toInt ∧ (gr_shaftPlace : Int32).toInt ≤ 63) from by omega) hf_18
        refine dk_iast hx hb K hP hD hS 9 rfl f_18 (fun _ _ => by rw [hf_18]) hin_19 dX5_begin_78 (fun H locs hP hD hS => ?_)
        have hP : va_P D vwCl [(pt, .inr (5, [.int 0, .int 0, .ref pt_cells, .ref pt_hurts, .ref pt_planMiners, .ref pt_planPlaces, .ref pt_sold, .ref pt_tubCounts])), (pt_hurts, .inl (g 0, 6, .inl ptf_hurts)), (pt_planMiners, .inl (g 0, 16, .inl ptf_planMiners)), (pt_planPlaces, .inl (g 0, 16, .inl ptf_planPlaces)), (pt_sold, .inl (g 0, 5, .inl ptf_sold)), (pt_tubCounts, .inl (g 0, 10, .inl ptf_tubCounts)), (gr_grades, .inl (g 0, 72, .inl grf_grades)), (gr_planMiners, .inl (g 0, 16, .inl grf_planMiners)), (gr_planPlaces, .inl (g 0, 16, .inl grf_planPlaces)), (pt_cells, .inl (g 0, 72, .inl f_18)), (gr, .inr (2, [.int gr_columns, .int gr_rows, .int gr_shaftPlace, .int gr_reach, .int gr_quake, .ref gr_grades, .int gr_miners, .ref gr_minerNames, .int gr_planRows, .ref gr_planMiners, .ref gr_planPlaces, .int gr_orders, .ref gr_orderNames, .ref gr_orderGrades, .ref gr_orderTubs, .ref gr_orderPays, .ref gr_steps, .ref gr_ruleFrom, .ref gr_ruleEnd]))] H := hP
        have hD : va_D A [(pt, .inr (5, [.int 0, .int 0, .ref pt_cells, .ref pt_hurts, .ref pt_planMiners, .ref pt_planPlaces, .ref pt_sold, .ref pt_tubCounts])), (pt_hurts, .inl (g 0, 6, .inl ptf_hurts)), (pt_planMiners, .inl (g 0, 16, .inl ptf_planMiners)), (pt_planPlaces, .inl (g 0, 16, .inl ptf_planPlaces)), (pt_sold, .inl (g 0, 5, .inl ptf_sold)), (pt_tubCounts, .inl (g 0, 10, .inl ptf_tubCounts)), (gr_grades, .inl (g 0, 72, .inl grf_grades)), (gr_planMiners, .inl (g 0, 16, .inl grf_planMiners)), (gr_planPlaces, .inl (g 0, 16, .inl grf_planPlaces)), (pt_cells, .inl (g 0, 72, .inl f_18)), (gr, .inr (2, [.int gr_columns, .int gr_rows, .int gr_shaftPlace, .int gr_reach, .int gr_quake, .ref gr_grades, .int gr_miners, .ref gr_minerNames, .int gr_planRows, .ref gr_planMiners, .ref gr_planPlaces, .int gr_orders, .ref gr_orderNames, .ref gr_orderGrades, .ref gr_orderTubs, .ref gr_orderPays, .ref gr_steps, .ref gr_ruleFrom, .ref gr_ruleEnd]))] := hD
        refine lv_aload_n hx hb dX5_begin_79 rfl (lv_at hl 1 rfl) ?_
        refine va_get (C := RX5) (T := TX5) (N := 8) hx hb hts iX5 hown K.1 hP 0 rfl rfl 3 (by decide) (hts (.fieldLink RX5 15 "DarkMine$Pit" "hurts" "[I") (by decide +kernel)) (fun _ h9 => h9) (v := .ref pt_hurts) rfl dX5_begin_80 ?_
        refine lv_iconst (v := 0) hx hb dX5_begin_83 (by decide +kernel) ?_
        refine dk_backv hP hD hS hA (wr := [(pt, .inr (5, [.int 0, .int 0, .ref pt_cells, .ref pt_hurts, .ref pt_planMiners, .ref pt_planPlaces, .ref pt_sold, .ref pt_tubCounts])), (pt_planMiners, .inl (g 0, 16, .inl ptf_planMiners)), (pt_planPlaces, .inl (g 0, 16, .inl ptf_planPlaces)), (pt_sold, .inl (g 0, 5, .inl ptf_sold)), (pt_tubCounts, .inl (g 0, 10, .inl ptf_tubCounts)), (gr_grades, .inl (g 0, 72, .inl grf_grades)), (gr_planMiners, .inl (g 0, 16, .inl grf_planMiners)), (gr_planPlaces, .inl (g 0, 16, .inl grf_planPlaces)), (pt_cells, .inl (g 0, 72, .inl f_18)), (gr, .inr (2, [.int gr_columns, .int gr_rows, .int gr_shaftPlace, .int gr_reach, .int gr_quake, .ref gr_grades, .int gr_miners, .ref gr_minerNames, .int gr_planRows, .ref gr_planMiners, .ref gr_planPlaces, .int gr_orders, .ref gr_orderNames, .ref gr_orderGrades, .ref gr_orderTubs, .ref gr_orderPays, .ref gr_steps, .ref gr_ruleFrom, .ref gr_ruleEnd]))]) [1] [0, 2, 3, 4, 5, 6, 7, 8, 9, 10] rfl rfl (by decide) (by decide) (va_runS (As := [.ref pt_hurts, .int 0]) (rest := []) F (c_fill_6 l g D pt_hurts ptf_hurts 0 H.size) (va_cwS 2 hts gX5_begin_J7_fill_53178 rfl rfl rfl (by decide +kernel) ⟨Nat.le_of_ble_eq_true rfl, Nat.le_of_ble_eq_true rfl⟩) (dk_preS K ST hP hD hS hA [1] rfl (by decide)) rfl rfl hl.1 rfl (lv_room (Nat.le_of_ble_eq_true rfl)) dX5_begin_84 ⟨Nat.le_of_ble_eq_true rfl, Nat.le_of_ble_eq_true rfl⟩) (fun u H locs hw hP hD hS => ?_)
        have hP : va_P D vwCl [(pt, .inr (5, [.int 0, .int 0, .ref pt_cells, .ref pt_hurts, .ref pt_planMiners, .ref pt_planPlaces, .ref pt_sold, .ref pt_tubCounts])), (pt_planMiners, .inl (g 0, 16, .inl ptf_planMiners)), (pt_planPlaces, .inl (g 0, 16, .inl ptf_planPlaces)), (pt_sold, .inl (g 0, 5, .inl ptf_sold)), (pt_tubCounts, .inl (g 0, 10, .inl ptf_tubCounts)), (gr_grades, .inl (g 0, 72, .inl grf_grades)), (gr_planMiners, .inl (g 0, 16, .inl grf_planMiners)), (gr_planPlaces, .inl (g 0, 16, .inl grf_planPlaces)), (pt_cells, .inl (g 0, 72, .inl f_18)), (gr, .inr (2, [.int gr_columns, .int gr_rows, .int gr_shaftPlace, .int gr_reach, .int gr_quake, .ref gr_grades, .int gr_miners, .ref gr_minerNames, .int gr_planRows, .ref gr_planMiners, .ref gr_planPlaces, .int gr_orders, .ref gr_orderNames, .ref gr_orderGrades, .ref gr_orderTubs, .ref gr_orderPays, .ref gr_steps, .ref gr_ruleFrom, .ref gr_ruleEnd])), (pt_hurts, .inl (g 0, 6, .inl (fun _ => 0)))] H := hP
        have hD : va_D A [(pt, .inr (5, [.int 0, .int 0, .ref pt_cells, .ref pt_hurts, .ref pt_planMiners, .ref pt_planPlaces, .ref pt_sold, .ref pt_tubCounts])), (pt_planMiners, .inl (g 0, 16, .inl ptf_planMiners)), (pt_planPlaces, .inl (g 0, 16, .inl ptf_planPlaces)), (pt_sold, .inl (g 0, 5, .inl ptf_sold)), (pt_tubCounts, .inl (g 0, 10, .inl ptf_tubCounts)), (gr_grades, .inl (g 0, 72, .inl grf_grades)), (gr_planMiners, .inl (g 0, 16, .inl grf_planMiners)), (gr_planPlaces, .inl (g 0, 16, .inl grf_planPlaces)), (pt_cells, .inl (g 0, 72, .inl f_18)), (gr, .inr (2, [.int gr_columns, .int gr_rows, .int gr_shaftPlace, .int gr_reach, .int gr_quake, .ref gr_grades, .int gr_miners, .ref gr_minerNames, .int gr_planRows, .ref gr_planMiners, .ref gr_planPlaces, .int gr_orders, .ref gr_orderNames, .ref gr_orderGrades, .ref gr_orderTubs, .ref gr_orderPays, .ref gr_steps, .ref gr_ruleFrom, .ref gr_ruleEnd])), (pt_hurts, .inl (g 0, 6, .inl (fun _ => 0)))] := hD
        refine lv_aload_n hx hb dX5_begin_87 rfl (lv_at hl 2 rfl) ?_
        refine va_get (C := RX2) (T := TX2) (N := 19) hx hb hts iX2 hown K.1 hP 9 rfl rfl 9 (by decide) (hts (.fieldLink RX5 67 "DarkMine$Ground" "planMiners" "[I") (by decide +kernel)) (fun _ h9 => h9) (v := .ref gr_planMiners) rfl dX5_begin_88 ?_
        refine lv_iconst (v := 0) hx hb dX5_begin_91 (by decide +kernel) ?_
        refine lv_aload_n hx hb dX5_begin_92 rfl (lv_at hl 1 rfl) ?_
        refine va_get (C := RX5) (T := TX5) (N := 8) hx hb hts iX5 hown K.1 hP 0 rfl rfl 4 (by decide) (hts (.fieldLink RX5 18 "DarkMine$Pit" "planMiners" "[I") (by decide +kernel)) (fun _ h9 => h9) (v := .ref pt_planMiners) rfl dX5_begin_93 ?_
        refine lv_iconst (v := 0) hx hb dX5_begin_96 (by decide +kernel) ?_
        refine lv_bipush (v := 16) hx hb dX5_begin_97 (by decide +kernel) ?_
        have hz_22 : (16 : Int32).toInt = 16 := by decide +kernel
        have hz_23 : (0 : Int32).toInt = 0 := by decide +kernel
        have hz_24 : (0 : Int32).toInt = 0 := by decide +kernel
        have hc_25 : (0 : Int32).toNatClampNeg + (16 : Int32).toNatClampNeg ≤ 16 := (by rw [dk_clN, dk_clN]; omega)
        obtain ⟨f_21, hf_21⟩ : ∃ f' : Nat → Int32, f' = va_cpy grf_planMiners ptf_planMiners (0 : Int32).toNatClampNeg (0 : Int32).toNatClampNeg (16 : Int32).toNatClampNeg := ⟨_, rfl⟩
        have jf_21 : dk_all 16 f_21 0 5 := by rw [hf_21]; exact dk_all_cpy (n0 := 16) b_grf_planMiners b_ptf_planMiners _ _ _ hc_25
        refine va_copyi hx hb (by rw [hml]; exact hl.1.symm) hown (hts (.methodLink RX5 54 arraycopyName) (by decide +kernel)) (hts (.native arraycopyName) (by decide +kernel)) (hts (.static arraycopyName) (by decide +kernel)) (hts (.initialized "java/lang/System") (by decide +kernel)) K.1 hP hD hS 6 1 0 0 rfl rfl rfl rfl rfl (dk_nneg (by omega)) (dk_nneg (by omega)) (dk_nneg (by omega)) hc_25 (by rw [dk_clN, dk_clN]; omega) (fun _ _ => rfl) (Nat.le_of_ble_eq_true rfl) (Nat.le_of_ble_eq_true rfl) dX5_begin_99 (fun H locs hP hD hS => ?_)
        rw [← hf_21] at hP hD
        have hP : va_P D vwCl [(pt, .inr (5, [.int 0, .int 0, .ref pt_cells, .ref pt_hurts, .ref pt_planMiners, .ref pt_planPlaces, .ref pt_sold, .ref pt_tubCounts])), (pt_planMiners, .inl (g 0, 16, .inl f_21)), (pt_planPlaces, .inl (g 0, 16, .inl ptf_planPlaces)), (pt_sold, .inl (g 0, 5, .inl ptf_sold)), (pt_tubCounts, .inl (g 0, 10, .inl ptf_tubCounts)), (gr_grades, .inl (g 0, 72, .inl grf_grades)), (gr_planMiners, .inl (g 0, 16, .inl grf_planMiners)), (gr_planPlaces, .inl (g 0, 16, .inl grf_planPlaces)), (pt_cells, .inl (g 0, 72, .inl f_18)), (gr, .inr (2, [.int gr_columns, .int gr_rows, .int gr_shaftPlace, .int gr_reach, .int gr_quake, .ref gr_grades, .int gr_miners, .ref gr_minerNames, .int gr_planRows, .ref gr_planMiners, .ref gr_planPlaces, .int gr_orders, .ref gr_orderNames, .ref gr_orderGrades, .ref gr_orderTubs, .ref gr_orderPays, .ref gr_steps, .ref gr_ruleFrom, .ref gr_ruleEnd])), (pt_hurts, .inl (g 0, 6, .inl (fun _ => 0)))] H := hP
        have hD : va_D A [(pt, .inr (5, [.int 0, .int 0, .ref pt_cells, .ref pt_hurts, .ref pt_planMiners, .ref pt_planPlaces, .ref pt_sold, .ref pt_tubCounts])), (pt_planMiners, .inl (g 0, 16, .inl f_21)), (pt_planPlaces, .inl (g 0, 16, .inl ptf_planPlaces)), (pt_sold, .inl (g 0, 5, .inl ptf_sold)), (pt_tubCounts, .inl (g 0, 10, .inl ptf_tubCounts)), (gr_grades, .inl (g 0, 72, .inl grf_grades)), (gr_planMiners, .inl (g 0, 16, .inl grf_planMiners)), (gr_planPlaces, .inl (g 0, 16, .inl grf_planPlaces)), (pt_cells, .inl (g 0, 72, .inl f_18)), (gr, .inr (2, [.int gr_columns, .int gr_rows, .int gr_shaftPlace, .int gr_reach, .int gr_quake, .ref gr_grades, .int gr_miners, .ref gr_minerNames, .int gr_planRows, .ref gr_planMiners, .ref gr_planPlaces, .int gr_orders, .ref gr_orderNames, .ref gr_orderGrades, .ref gr_orderTubs, .ref gr_orderPays, .ref gr_steps, .ref gr_ruleFrom, .ref gr_ruleEnd])), (pt_hurts, .inl (g 0, 6, .inl (fun _ => 0)))] := hD
        refine lv_aload_n hx hb dX5_begin_102 rfl (lv_at hl 2 rfl) ?_
        refine va_get (C := RX2) (T := TX2) (N := 19) hx hb hts iX2 hown K.1 hP 9 rfl rfl 10 (by decide) (hts (.fieldLink RX5 68 "DarkMine$Ground" "planPlaces" "[I") (by decide +kernel)) (fun _ h9 => h9) (v := .ref gr_planPlaces) rfl dX5_begin_103 ?_
        refine lv_iconst (v := 0) hx hb dX5_begin_106 (by decide +kernel) ?_
        refine lv_aload_n hx hb dX5_begin_107 rfl (lv_at hl 1 rfl) ?_
        refine va_get (C := RX5) (T := TX5) (N := 8) hx hb hts iX5 hown K.1 hP 0 rfl rfl 5 (by decide) (hts (.fieldLink RX5 21 "DarkMine$Pit" "planPlaces" "[I") (by decide +kernel)) (fun _ h9 => h9) (v := .ref pt_planPlaces) rfl dX5_begin_108 ?_
        refine lv_iconst (v := 0) hx hb dX5_begin_111 (by decide +kernel) ?_
        refine lv_bipush (v := 16) hx hb dX5_begin_112 (by decide +kernel) ?_
        have hz_27 : (16 : Int32).toInt = 16 := by decide +kernel
        have hz_28 : (0 : Int32).toInt = 0 := by decide +kernel
        have hz_29 : (0 : Int32).toInt = 0 := by decide +kernel
        have hc_30 : (0 : Int32).toNatClampNeg + (16 : Int32).toNatClampNeg ≤ 16 := (by rw [dk_clN, dk_clN]; omega)
        obtain ⟨f_26, hf_26⟩ : ∃ f' : Nat → Int32, f' = va_cpy grf_planPlaces ptf_planPlaces (0 : Int32).toNatClampNeg (0 : Int32).toNatClampNeg (16 : Int32).toNatClampNeg := ⟨_, rfl⟩
        have jf_26 : dk_row 16 f_26 (dk_Ppl gr_planRows) := by rw [hf_26]; exact dk_row_cpyA (n0 := 16) b_grf_planPlaces _ _ _ (by decide +kernel) (by decide +kernel) (by decide +kernel) hc_30
        refine va_copyi hx hb (by rw [hml]; exact hl.1.symm) hown (hts (.methodLink RX5 54 arraycopyName) (by decide +kernel)) (hts (.native arraycopyName) (by decide +kernel)) (hts (.static arraycopyName) (by decide +kernel)) (hts (.initialized "java/lang/System") (by decide +kernel)) K.1 hP hD hS 7 2 0 0 rfl rfl rfl rfl rfl (dk_nneg (by omega)) (dk_nneg (by omega)) (dk_nneg (by omega)) hc_30 (by rw [dk_clN, dk_clN]; omega) (fun _ _ => rfl) (Nat.le_of_ble_eq_true rfl) (Nat.le_of_ble_eq_true rfl) dX5_begin_114 (fun H locs hP hD hS => ?_)
        rw [← hf_26] at hP hD
        have hP : va_P D vwCl [(pt, .inr (5, [.int 0, .int 0, .ref pt_cells, .ref pt_hurts, .ref pt_planMiners, .ref pt_planPlaces, .ref pt_sold, .ref pt_tubCounts])), (pt_planMiners, .inl (g 0, 16, .inl f_21)), (pt_planPlaces, .inl (g 0, 16, .inl f_26)), (pt_sold, .inl (g 0, 5, .inl ptf_sold)), (pt_tubCounts, .inl (g 0, 10, .inl ptf_tubCounts)), (gr_grades, .inl (g 0, 72, .inl grf_grades)), (gr_planMiners, .inl (g 0, 16, .inl grf_planMiners)), (gr_planPlaces, .inl (g 0, 16, .inl grf_planPlaces)), (pt_cells, .inl (g 0, 72, .inl f_18)), (gr, .inr (2, [.int gr_columns, .int gr_rows, .int gr_shaftPlace, .int gr_reach, .int gr_quake, .ref gr_grades, .int gr_miners, .ref gr_minerNames, .int gr_planRows, .ref gr_planMiners, .ref gr_planPlaces, .int gr_orders, .ref gr_orderNames, .ref gr_orderGrades, .ref gr_orderTubs, .ref gr_orderPays, .ref gr_steps, .ref gr_ruleFrom, .ref gr_ruleEnd])), (pt_hurts, .inl (g 0, 6, .inl (fun _ => 0)))] H := hP
        have hD : va_D A [(pt, .inr (5, [.int 0, .int 0, .ref pt_cells, .ref pt_hurts, .ref pt_planMiners, .ref pt_planPlaces, .ref pt_sold, .ref pt_tubCounts])), (pt_planMiners, .inl (g 0, 16, .inl f_21)), (pt_planPlaces, .inl (g 0, 16, .inl f_26)), (pt_sold, .inl (g 0, 5, .inl ptf_sold)), (pt_tubCounts, .inl (g 0, 10, .inl ptf_tubCounts)), (gr_grades, .inl (g 0, 72, .inl grf_grades)), (gr_planMiners, .inl (g 0, 16, .inl grf_planMiners)), (gr_planPlaces, .inl (g 0, 16, .inl grf_planPlaces)), (pt_cells, .inl (g 0, 72, .inl f_18)), (gr, .inr (2, [.int gr_columns, .int gr_rows, .int gr_shaftPlace, .int gr_reach, .int gr_quake, .ref gr_grades, .int gr_miners, .ref gr_minerNames, .int gr_planRows, .ref gr_planMiners, .ref gr_planPlaces, .int gr_orders, .ref gr_orderNames, .ref gr_orderGrades, .ref gr_orderTubs, .ref gr_orderPays, .ref gr_steps, .ref gr_ruleFrom, .ref gr_ruleEnd])), (pt_hurts, .inl (g 0, 6, .inl (fun _ => 0)))] := hD
        refine lv_aload_n hx hb dX5_begin_117 rfl (lv_at hl 1 rfl) ?_
        refine va_get (C := RX5) (T := TX5) (N := 8) hx hb hts iX5 hown K.1 hP 0 rfl rfl 6 (by decide) (hts (.fieldLink RX5 24 "DarkMine$Pit" "sold" "[I") (by decide +kernel)) (fun _ h9 => h9) (v := .ref pt_sold) rfl dX5_begin_118 ?_
        refine lv_iconst (v := 0) hx hb dX5_begin_121 (by decide +kernel) ?_
        refine dk_backv hP hD hS hA (wr := [(pt, .inr (5, [.int 0, .int 0, .ref pt_cells, .ref pt_hurts, .ref pt_planMiners, .ref pt_planPlaces, .ref pt_sold, .ref pt_tubCounts])), (pt_planMiners, .inl (g 0, 16, .inl f_21)), (pt_planPlaces, .inl (g 0, 16, .inl f_26)), (pt_tubCounts, .inl (g 0, 10, .inl ptf_tubCounts)), (gr_grades, .inl (g 0, 72, .inl grf_grades)), (gr_planMiners, .inl (g 0, 16, .inl grf_planMiners)), (gr_planPlaces, .inl (g 0, 16, .inl grf_planPlaces)), (pt_cells, .inl (g 0, 72, .inl f_18)), (gr, .inr (2, [.int gr_columns, .int gr_rows, .int gr_shaftPlace, .int gr_reach, .int gr_quake, .ref gr_grades, .int gr_miners, .ref gr_minerNames, .int gr_planRows, .ref gr_planMiners, .ref gr_planPlaces, .int gr_orders, .ref gr_orderNames, .ref gr_orderGrades, .ref gr_orderTubs, .ref gr_orderPays, .ref gr_steps, .ref gr_ruleFrom, .ref gr_ruleEnd])), (pt_hurts, .inl (g 0, 6, .inl (fun _ => 0)))]) [3] [0, 1, 2, 4, 5, 6, 7, 8, 9, 10] rfl rfl (by decide) (by decide) (va_runS (As := [.ref pt_sold, .int 0]) (rest := []) F (c_fill_5 l g D pt_sold ptf_sold 0 H.size) (va_cwS 2 hts gX5_begin_J7_fill_53178 rfl rfl rfl (by decide +kernel) ⟨Nat.le_of_ble_eq_true rfl, Nat.le_of_ble_eq_true rfl⟩) (dk_preS K ST hP hD hS hA [3] rfl (by decide)) rfl rfl hl.1 rfl (lv_room (Nat.le_of_ble_eq_true rfl)) dX5_begin_122 ⟨Nat.le_of_ble_eq_true rfl, Nat.le_of_ble_eq_true rfl⟩) (fun u H locs hw hP hD hS => ?_)
        have hP : va_P D vwCl [(pt, .inr (5, [.int 0, .int 0, .ref pt_cells, .ref pt_hurts, .ref pt_planMiners, .ref pt_planPlaces, .ref pt_sold, .ref pt_tubCounts])), (pt_planMiners, .inl (g 0, 16, .inl f_21)), (pt_planPlaces, .inl (g 0, 16, .inl f_26)), (pt_tubCounts, .inl (g 0, 10, .inl ptf_tubCounts)), (gr_grades, .inl (g 0, 72, .inl grf_grades)), (gr_planMiners, .inl (g 0, 16, .inl grf_planMiners)), (gr_planPlaces, .inl (g 0, 16, .inl grf_planPlaces)), (pt_cells, .inl (g 0, 72, .inl f_18)), (gr, .inr (2, [.int gr_columns, .int gr_rows, .int gr_shaftPlace, .int gr_reach, .int gr_quake, .ref gr_grades, .int gr_miners, .ref gr_minerNames, .int gr_planRows, .ref gr_planMiners, .ref gr_planPlaces, .int gr_orders, .ref gr_orderNames, .ref gr_orderGrades, .ref gr_orderTubs, .ref gr_orderPays, .ref gr_steps, .ref gr_ruleFrom, .ref gr_ruleEnd])), (pt_hurts, .inl (g 0, 6, .inl (fun _ => 0))), (pt_sold, .inl (g 0, 5, .inl (fun _ => 0)))] H := hP
        have hD : va_D A [(pt, .inr (5, [.int 0, .int 0, .ref pt_cells, .ref pt_hurts, .ref pt_planMiners, .ref pt_planPlaces, .ref pt_sold, .ref pt_tubCounts])), (pt_planMiners, .inl (g 0, 16, .inl f_21)), (pt_planPlaces, .inl (g 0, 16, .inl f_26)), (pt_tubCounts, .inl (g 0, 10, .inl ptf_tubCounts)), (gr_grades, .inl (g 0, 72, .inl grf_grades)), (gr_planMiners, .inl (g 0, 16, .inl grf_planMiners)), (gr_planPlaces, .inl (g 0, 16, .inl grf_planPlaces)), (pt_cells, .inl (g 0, 72, .inl f_18)), (gr, .inr (2, [.int gr_columns, .int gr_rows, .int gr_shaftPlace, .int gr_reach, .int gr_quake, .ref gr_grades, .int gr_miners, .ref gr_minerNames, .int gr_planRows, .ref gr_planMiners, .ref gr_planPlaces, .int gr_orders, .ref gr_orderNames, .ref gr_orderGrades, .ref gr_orderTubs, .ref gr_orderPays, .ref gr_steps, .ref gr_ruleFrom, .ref gr_ruleEnd])), (pt_hurts, .inl (g 0, 6, .inl (fun _ => 0))), (pt_sold, .inl (g 0, 5, .inl (fun _ => 0)))] := hD
        refine lv_aload_n hx hb dX5_begin_125 rfl (lv_at hl 1 rfl) ?_
        refine va_get (C := RX5) (T := TX5) (N := 8) hx hb hts iX5 hown K.1 hP 0 rfl rfl 7 (by decide) (hts (.fieldLink RX5 27 "DarkMine$Pit" "tubCounts" "[I") (by decide +kernel)) (fun _ h9 => h9) (v := .ref pt_tubCounts) rfl dX5_begin_126 ?_
        refine lv_iconst (v := 0) hx hb dX5_begin_129 (by decide +kernel) ?_
        refine dk_backv hP hD hS hA (wr := [(pt, .inr (5, [.int 0, .int 0, .ref pt_cells, .ref pt_hurts, .ref pt_planMiners, .ref pt_planPlaces, .ref pt_sold, .ref pt_tubCounts])), (pt_planMiners, .inl (g 0, 16, .inl f_21)), (pt_planPlaces, .inl (g 0, 16, .inl f_26)), (gr_grades, .inl (g 0, 72, .inl grf_grades)), (gr_planMiners, .inl (g 0, 16, .inl grf_planMiners)), (gr_planPlaces, .inl (g 0, 16, .inl grf_planPlaces)), (pt_cells, .inl (g 0, 72, .inl f_18)), (gr, .inr (2, [.int gr_columns, .int gr_rows, .int gr_shaftPlace, .int gr_reach, .int gr_quake, .ref gr_grades, .int gr_miners, .ref gr_minerNames, .int gr_planRows, .ref gr_planMiners, .ref gr_planPlaces, .int gr_orders, .ref gr_orderNames, .ref gr_orderGrades, .ref gr_orderTubs, .ref gr_orderPays, .ref gr_steps, .ref gr_ruleFrom, .ref gr_ruleEnd])), (pt_hurts, .inl (g 0, 6, .inl (fun _ => 0))), (pt_sold, .inl (g 0, 5, .inl (fun _ => 0)))]) [3] [0, 1, 2, 4, 5, 6, 7, 8, 9, 10] rfl rfl (by decide) (by decide) (va_runS (As := [.ref pt_tubCounts, .int 0]) (rest := []) F (c_fill_10 l g D pt_tubCounts ptf_tubCounts 0 H.size) (va_cwS 2 hts gX5_begin_J7_fill_53178 rfl rfl rfl (by decide +kernel) ⟨Nat.le_of_ble_eq_true rfl, Nat.le_of_ble_eq_true rfl⟩) (dk_preS K ST hP hD hS hA [3] rfl (by decide)) rfl rfl hl.1 rfl (lv_room (Nat.le_of_ble_eq_true rfl)) dX5_begin_130 ⟨Nat.le_of_ble_eq_true rfl, Nat.le_of_ble_eq_true rfl⟩) (fun u H locs hw hP hD hS => ?_)
        have hP : va_P D vwCl [(pt, .inr (5, [.int 0, .int 0, .ref pt_cells, .ref pt_hurts, .ref pt_planMiners, .ref pt_planPlaces, .ref pt_sold, .ref pt_tubCounts])), (pt_planMiners, .inl (g 0, 16, .inl f_21)), (pt_planPlaces, .inl (g 0, 16, .inl f_26)), (gr_grades, .inl (g 0, 72, .inl grf_grades)), (gr_planMiners, .inl (g 0, 16, .inl grf_planMiners)), (gr_planPlaces, .inl (g 0, 16, .inl grf_planPlaces)), (pt_cells, .inl (g 0, 72, .inl f_18)), (gr, .inr (2, [.int gr_columns, .int gr_rows, .int gr_shaftPlace, .int gr_reach, .int gr_quake, .ref gr_grades, .int gr_miners, .ref gr_minerNames, .int gr_planRows, .ref gr_planMiners, .ref gr_planPlaces, .int gr_orders, .ref gr_orderNames, .ref gr_orderGrades, .ref gr_orderTubs, .ref gr_orderPays, .ref gr_steps, .ref gr_ruleFrom, .ref gr_ruleEnd])), (pt_hurts, .inl (g 0, 6, .inl (fun _ => 0))), (pt_sold, .inl (g 0, 5, .inl (fun _ => 0))), (pt_tubCounts, .inl (g 0, 10, .inl (fun _ => 0)))] H := hP
        have hD : va_D A [(pt, .inr (5, [.int 0, .int 0, .ref pt_cells, .ref pt_hurts, .ref pt_planMiners, .ref pt_planPlaces, .ref pt_sold, .ref pt_tubCounts])), (pt_planMiners, .inl (g 0, 16, .inl f_21)), (pt_planPlaces, .inl (g 0, 16, .inl f_26)), (gr_grades, .inl (g 0, 72, .inl grf_grades)), (gr_planMiners, .inl (g 0, 16, .inl grf_planMiners)), (gr_planPlaces, .inl (g 0, 16, .inl grf_planPlaces)), (pt_cells, .inl (g 0, 72, .inl f_18)), (gr, .inr (2, [.int gr_columns, .int gr_rows, .int gr_shaftPlace, .int gr_reach, .int gr_quake, .ref gr_grades, .int gr_miners, .ref gr_minerNames, .int gr_planRows, .ref gr_planMiners, .ref gr_planPlaces, .int gr_orders, .ref gr_orderNames, .ref gr_orderGrades, .ref gr_orderTubs, .ref gr_orderPays, .ref gr_steps, .ref gr_ruleFrom, .ref gr_ruleEnd])), (pt_hurts, .inl (g 0, 6, .inl (fun _ => 0))), (pt_sold, .inl (g 0, 5, .inl (fun _ => 0))), (pt_tubCounts, .inl (g 0, 10, .inl (fun _ => 0)))] := hD
        refine W.widen (k := 0) (n := 0) (Nat.le_of_ble_eq_true rfl) (Nat.le_of_ble_eq_true rfl) ?_
        exact dk_vret hx hb hr hlocks hP hD hS ⟨f_18, f_21, f_26⟩ [0, 6, 8, 1, 2, 9, 10, 7, 3, 4, 5] rfl (by decide) ⟨jf_18, jf_21, jf_26, trivial⟩ dX5_begin_133
    | succ n ih =>
      intro i_1 f_3 blo_i_1 b_f_3 hm H locs hP hD hS ls hl
      refine lv_iload_n hx hb dX5_begin_21 rfl (lv_at hl 0 rfl) ?_
      refine lv_aload_n hx hb dX5_begin_22 rfl (lv_at hl 2 rfl) ?_
      refine va_get (C := RX2) (T := TX2) (N := 19) hx hb hts iX2 hown K.1 hP 6 rfl rfl 1 (by decide) (hts (.fieldLink RX5 43 "DarkMine$Ground" "rows" "I") (by decide +kernel)) (fun _ h9 => h9) (v := .int gr_rows) rfl dX5_begin_23 ?_
      refine lv_icmp_ge (tgt := 60) hx hb dX5_begin_26 (by decide) (fun c => absurd c (fun z => absurd (dk_lec (k := (i_1).toInt) rfl z) (by omega))) (fun _ => ?_)
      refine lv_bipush (v := 8) hx hb dX5_begin_29 (by decide +kernel) ?_
      refine lv_iload_n hx hb dX5_begin_31 rfl (lv_at hl 0 rfl) ?_
      refine lv_imul hx hb dX5_begin_32 ?_
      refine lv_topi (fun x_31 ex_31 => ?_)
      have jx_31 : (x_31).toInt = 8 * (i_1).toInt := by rw [ex_31]; exact dk_mulT (by decide +kernel) rfl (by omega) (by omega)
      refine lv_bipush (v := 8) hx hb dX5_begin_33 (by decide +kernel) ?_
      refine lv_iadd hx hb dX5_begin_35 ?_
      refine lv_topi (fun x_32 ex_32 => ?_)
      have jx_32 : (x_32).toInt = (x_31).toInt + 8 := by rw [ex_32]; exact dk_addT rfl (by decide +kernel) (by omega) (by omega)
      refine lv_istore_n (lv' := [(3, .int x_32), (2, .int i_1), (0, .ref pt), (1, .ref gr)]) hx hb dX5_begin_36 rfl hl (by decide) rfl (fun ls hl => ?_)
      refine lv_aload_n hx hb dX5_begin_37 rfl (lv_at hl 3 rfl) ?_
      refine va_get (C := RX2) (T := TX2) (N := 19) hx hb hts iX2 hown K.1 hP 6 rfl rfl 5 (by decide) (hts (.fieldLink RX5 48 "DarkMine$Ground" "grades" "[I") (by decide +kernel)) (fun _ h9 => h9) (v := .ref gr_grades) rfl dX5_begin_38 ?_
      refine lv_iload_n hx hb dX5_begin_41 rfl (lv_at hl 0 rfl) ?_
      refine lv_aload_n hx hb dX5_begin_42 rfl (lv_at hl 2 rfl) ?_
      refine va_get (C := RX5) (T := TX5) (N := 8) hx hb hts iX5 hown K.1 hP 0 rfl rfl 2 (by decide) (hts (.fieldLink RX5 9 "DarkMine$Pit" "cells" "[I") (by decide +kernel)) (fun _ h9 => h9) (v := .ref pt_cells) rfl dX5_begin_43 ?_
      refine lv_iload_n hx hb dX5_begin_46 rfl (lv_at hl 0 rfl) ?_
      refine lv_aload_n hx hb dX5_begin_47 rfl (lv_at hl 3 rfl) ?_
      refine va_get (C := RX2) (T := TX2) (N := 19) hx hb hts iX2 hown K.1 hP 6 rfl rfl 0 (by decide) (hts (.fieldLink RX5 51 "DarkMine$Ground" "columns" "I") (by decide +kernel)) (fun _ h9 => h9) (v := .int gr_columns) rfl dX5_begin_48 ?_
      have hc_34 : (x_32 : Int32).toNatClampNeg + (gr_columns : Int32).toNatClampNeg ≤ 72 := (by rw [dk_clN, dk_clN]; omega)
      obtain ⟨f_33, hf_33⟩ : ∃ f' : Nat → Int32, f' = va_cpy grf_grades f_3 (x_32 : Int32).toNatClampNeg (x_32 : Int32).toNatClampNeg (gr_columns : Int32).toNatClampNeg := ⟨_, rfl⟩
      have jf_33 : dk_row 72 f_33 dk_Pcel := by rw [hf_33]; exact dk_row_cpy (n0 := 72) (dk_all_cel b_grf_grades (by decide) (by decide)) b_f_3 _ _ _ rfl hc_34
      refine va_copyi hx hb (by rw [hml]; exact hl.1.symm) hown (hts (.methodLink RX5 54 arraycopyName) (by decide +kernel)) (hts (.native arraycopyName) (by decide +kernel)) (hts (.static arraycopyName) (by decide +kernel)) (hts (.initialized "java/lang/System") (by decide +kernel)) K.1 hP hD hS 7 10 0 0 rfl rfl rfl rfl rfl (dk_nneg (by omega)) (dk_nneg (by omega)) (dk_nneg (by omega)) hc_34 (by rw [dk_clN, dk_clN]; omega) (fun _ _ => rfl) (Nat.le_of_ble_eq_true rfl) (Nat.le_of_ble_eq_true rfl) dX5_begin_51 (fun H locs hP hD hS => ?_)
      rw [← hf_33] at hP hD
      have hP : va_P D vwCl [(pt, .inr (5, [.int 0, .int 0, .ref pt_cells, .ref pt_hurts, .ref pt_planMiners, .ref pt_planPlaces, .ref pt_sold, .ref pt_tubCounts])), (pt_hurts, .inl (g 0, 6, .inl ptf_hurts)), (pt_planMiners, .inl (g 0, 16, .inl ptf_planMiners)), (pt_planPlaces, .inl (g 0, 16, .inl ptf_planPlaces)), (pt_sold, .inl (g 0, 5, .inl ptf_sold)), (pt_tubCounts, .inl (g 0, 10, .inl ptf_tubCounts)), (gr, .inr (2, [.int gr_columns, .int gr_rows, .int gr_shaftPlace, .int gr_reach, .int gr_quake, .ref gr_grades, .int gr_miners, .ref gr_minerNames, .int gr_planRows, .ref gr_planMiners, .ref gr_planPlaces, .int gr_orders, .ref gr_orderNames, .ref gr_orderGrades, .ref gr_orderTubs, .ref gr_orderPays, .ref gr_steps, .ref gr_ruleFrom, .ref gr_ruleEnd])), (gr_grades, .inl (g 0, 72, .inl grf_grades)), (gr_planMiners, .inl (g 0, 16, .inl grf_planMiners)), (gr_planPlaces, .inl (g 0, 16, .inl grf_planPlaces)), (pt_cells, .inl (g 0, 72, .inl f_33))] H := hP
      have hD : va_D A [(pt, .inr (5, [.int 0, .int 0, .ref pt_cells, .ref pt_hurts, .ref pt_planMiners, .ref pt_planPlaces, .ref pt_sold, .ref pt_tubCounts])), (pt_hurts, .inl (g 0, 6, .inl ptf_hurts)), (pt_planMiners, .inl (g 0, 16, .inl ptf_planMiners)), (pt_planPlaces, .inl (g 0, 16, .inl ptf_planPlaces)), (pt_sold, .inl (g 0, 5, .inl ptf_sold)), (pt_tubCounts, .inl (g 0, 10, .inl ptf_tubCounts)), (gr, .inr (2, [.int gr_columns, .int gr_rows, .int gr_shaftPlace, .int gr_reach, .int gr_quake, .ref gr_grades, .int gr_miners, .ref gr_minerNames, .int gr_planRows, .ref gr_planMiners, .ref gr_planPlaces, .int gr_orders, .ref gr_orderNames, .ref gr_orderGrades, .ref gr_orderTubs, .ref gr_orderPays, .ref gr_steps, .ref gr_ruleFrom, .ref gr_ruleEnd])), (gr_grades, .inl (g 0, 72, .inl grf_grades)), (gr_planMiners, .inl (g 0, 16, .inl grf_planMiners)), (gr_planPlaces, .inl (g 0, 16, .inl grf_planPlaces)), (pt_cells, .inl (g 0, 72, .inl f_33))] := hD
      obtain ⟨x_35, ex_35⟩ : ∃ z, z = i_1 + 1 := ⟨_, rfl⟩
      have jx_35 : (x_35).toInt = (i_1).toInt + 1 := by rw [ex_35]; exact dk_addT rfl (by decide +kernel) (by omega) (by omega)
      refine lv_iinc (v := x_35) (lv' := [(2, .int x_35), (3, .int x_32), (0, .ref pt), (1, .ref gr)]) hx hb dX5_begin_54 hl (k := 1) rfl (by rw [ex_35]; rfl) (by decide) rfl (fun ls hl => ?_)
      refine lv_goto (tgt := 21) hx hb dX5_begin_57 (by decide) ?_
      have hP := hP.sub (ws' := [(pt, .inr (5, [.int 0, .int 0, .ref pt_cells, .ref pt_hurts, .ref pt_planMiners, .ref pt_planPlaces, .ref pt_sold, .ref pt_tubCounts])), (pt_hurts, .inl (g 0, 6, .inl ptf_hurts)), (pt_planMiners, .inl (g 0, 16, .inl ptf_planMiners)), (pt_planPlaces, .inl (g 0, 16, .inl ptf_planPlaces)), (pt_sold, .inl (g 0, 5, .inl ptf_sold)), (pt_tubCounts, .inl (g 0, 10, .inl ptf_tubCounts)), (gr, .inr (2, [.int gr_columns, .int gr_rows, .int gr_shaftPlace, .int gr_reach, .int gr_quake, .ref gr_grades, .int gr_miners, .ref gr_minerNames, .int gr_planRows, .ref gr_planMiners, .ref gr_planPlaces, .int gr_orders, .ref gr_orderNames, .ref gr_orderGrades, .ref gr_orderTubs, .ref gr_orderPays, .ref gr_steps, .ref gr_ruleFrom, .ref gr_ruleEnd])), (gr_grades, .inl (g 0, 72, .inl grf_grades)), (gr_planMiners, .inl (g 0, 16, .inl grf_planMiners)), (gr_planPlaces, .inl (g 0, 16, .inl grf_planPlaces)), (pt_cells, .inl (g 0, 72, .inl f_33))]) [0, 1, 2, 3, 4, 5, 6, 7, 8, 9, 10] rfl
      have hD := hD.sub (ws' := [(pt, .inr (5, [.int 0, .int 0, .ref pt_cells, .ref pt_hurts, .ref pt_planMiners, .ref pt_planPlaces, .ref pt_sold, .ref pt_tubCounts])), (pt_hurts, .inl (g 0, 6, .inl ptf_hurts)), (pt_planMiners, .inl (g 0, 16, .inl ptf_planMiners)), (pt_planPlaces, .inl (g 0, 16, .inl ptf_planPlaces)), (pt_sold, .inl (g 0, 5, .inl ptf_sold)), (pt_tubCounts, .inl (g 0, 10, .inl ptf_tubCounts)), (gr, .inr (2, [.int gr_columns, .int gr_rows, .int gr_shaftPlace, .int gr_reach, .int gr_quake, .ref gr_grades, .int gr_miners, .ref gr_minerNames, .int gr_planRows, .ref gr_planMiners, .ref gr_planPlaces, .int gr_orders, .ref gr_orderNames, .ref gr_orderGrades, .ref gr_orderTubs, .ref gr_orderPays, .ref gr_steps, .ref gr_ruleFrom, .ref gr_ruleEnd])), (gr_grades, .inl (g 0, 72, .inl grf_grades)), (gr_planMiners, .inl (g 0, 16, .inl grf_planMiners)), (gr_planPlaces, .inl (g 0, 16, .inl grf_planPlaces)), (pt_cells, .inl (g 0, 72, .inl f_33))]) [0, 1, 2, 3, 4, 5, 6, 7, 8, 9, 10] (by decide) rfl
      exact ih x_35 f_33 (by omega) jf_33 (by omega) _ _ hP hD hS _ (lv_sub hl [0, 2, 3] rfl)
  have hz_36 : (0 : Int32).toInt = 0 := by decide +kernel
  exact loop_2 (((gr_rows).toInt : Int) - 0).toNat 0 (fun _ => 100) (by omega) (dk_cel_c (by decide +kernel)) (by omega) _ _ hP hD hS _ (lv_sub hl [0, 1, 2] rfl)
set_option maxHeartbeats 8000000 in
set_option maxRecDepth 100000 in
theorem c_p_openBeside (l : Launch) (g : Nat → ClassId) (D : va_G) (pt : Nat) (pt_shift : Int32) (pt_purse : Int32) (pt_cells : Nat) (pt_hurts : Nat) (pt_planMiners : Nat) (pt_planPlaces : Nat) (pt_sold : Nat) (pt_tubCounts : Nat) (ptf_cells : Nat → Int32) (a1 : Int32) (b_pt_shift : 0 ≤ (pt_shift).toInt ∧ (pt_shift).toInt ≤ 999) (b_pt_purse : 0 ≤ (pt_purse).toInt ∧ (pt_purse).toInt ≤ 99999) (b_ptf_cells : dk_row 72 ptf_cells dk_Pcel) (b_a1 : 8 ≤ (a1).toInt ∧ (a1).toInt ≤ 63) (sz : Nat) : Met l yX5_openBeside wsX5_openBeside ({ frames := 2, cells := 0, slots := 0, locals := 53 } : Room) (dk_Pc g D [(pt, .inr (5, [.int pt_shift, .int pt_purse, .ref pt_cells, .ref pt_hurts, .ref pt_planMiners, .ref pt_planPlaces, .ref pt_sold, .ref pt_tubCounts])), (pt_cells, .inl (g 0, 72, .inl ptf_cells))] sz [.ref pt, .int a1]) (va_Qi (fun (r : Int32) (_ : Unit) => (0 ≤ (r).toInt ∧ (r).toInt ≤ 4) ∧ True) (dk_B D (va_A [(pt, .inr (5, [.int pt_shift, .int pt_purse, .ref pt_cells, .ref pt_hurts, .ref pt_planMiners, .ref pt_planPlaces, .ref pt_sold, .ref pt_tubCounts])), (pt_cells, .inl (g 0, 72, .inl ptf_cells))] sz) (fun (_ : Unit) => [(pt, .inr (5, [.int pt_shift, .int pt_purse, .ref pt_cells, .ref pt_hurts, .ref pt_planMiners, .ref pt_planPlaces, .ref pt_sold, .ref pt_tubCounts])), (pt_cells, .inl (g 0, 72, .inl ptf_cells))])) (va_A [(pt, .inr (5, [.int pt_shift, .int pt_purse, .ref pt_cells, .ref pt_hurts, .ref pt_planMiners, .ref pt_planPlaces, .ref pt_sold, .ref pt_tubCounts])), (pt_cells, .inl (g 0, 72, .inl ptf_cells))] sz)) 0 0 (va_A [(pt, .inr (5, [.int pt_shift, .int pt_purse, .ref pt_cells, .ref pt_hurts, .ref pt_planMiners, .ref pt_planPlaces, .ref pt_sold, .ref pt_tubCounts])), (pt_cells, .inl (g 0, 72, .inl ptf_cells))] sz) := by
  refine dk_met (cc := cX5_openBeside) (maxL := 7) (ret := (some .int)) (by decide) rfl (Nat.le_of_ble_eq_true rfl) ?_
  intro p e s m args below meth c harg hx hb hr hml hts hown hlocks hin hP K hD hS hA ST hsz ls hl
  subst hsz
  generalize va_A [(pt, .inr (5, [.int pt_shift, .int pt_purse, .ref pt_cells, .ref pt_hurts, .ref pt_planMiners, .ref pt_planPlaces, .ref pt_sold, .ref pt_tubCounts])), (pt_cells, .inl (g 0, 72, .inl ptf_cells))] s.heap.size = A at hD hS hA ST ⊢
  have F : CallFix p m c cX5_openBeside 7 s args wsX5_openBeside RX5 := ⟨hx, hb, hml, hown, hts⟩
  have hl : lv_has ls 7 [(0, .ref pt), (1, .int a1)] := hl
  obtain ⟨sd, hZs, hTs⟩ := id ST
  refine lv_iconst (v := 0) hx hb dX5_openBeside_0 (by decide +kernel) ?_
  refine lv_istore_n (lv' := [(2, .int 0), (0, .ref pt), (1, .int a1)]) hx hb dX5_openBeside_1 rfl hl (by decide) rfl (fun ls hl => ?_)
  refine va_getsN (host := RX11) hx hb hZs hS hown (va_Nw.use rfl (K.2.1 _ (List.mem_of_getElem? (i := 11) rfl))) (fun _ h9 => h9) dX5_openBeside_2 ?_
  refine lv_astore_n (lv' := [(3, .ref sd), (2, .int 0), (0, .ref pt), (1, .int a1)]) hx hb dX5_openBeside_5 rfl hl (by decide) rfl (fun ls hl => ?_)
  refine lv_aload_n hx hb dX5_openBeside_6 rfl (lv_at hl 0 rfl) ?_
  refine va_tlen hx hb hTs hS (v := 4) rfl dX5_openBeside_7 ?_
  refine lv_istore (lv' := [(4, .int 4), (3, .ref sd), (2, .int 0), (0, .ref pt), (1, .int a1)]) hx hb dX5_openBeside_8 hl (by decide) rfl (fun ls hl => ?_)
  refine lv_iconst (v := 0) hx hb dX5_openBeside_10 (by decide +kernel) ?_
  refine lv_istore (lv' := [(5, .int 0), (4, .int 4), (3, .ref sd), (2, .int 0), (0, .ref pt), (1, .int a1)]) hx hb dX5_openBeside_11 hl (by decide) rfl (fun ls hl => ?_)
  have hz_4 : (0 : Int32).toInt = 0 := by decide +kernel
  have loop_2 : ∀ (n : Nat) (i_1 : Int32) (x_3 : Int32), 0 ≤ (i_1).toInt → (0 ≤ (x_3).toInt ∧ (x_3).toInt ≤ 4) → ((x_3).toInt ≤ (i_1).toInt) → 4 - (i_1).toInt = (n : Int) → ∀ (H : Heap) (locs : List Loc), va_P D vwCl [(pt, .inr (5, [.int pt_shift, .int pt_purse, .ref pt_cells, .ref pt_hurts, .ref pt_planMiners, .ref pt_planPlaces, .ref pt_sold, .ref pt_tubCounts])), (pt_cells, .inl (g 0, 72, .inl ptf_cells))] H → va_D A [(pt, .inr (5, [.int pt_shift, .int pt_purse, .ref pt_cells, .ref pt_hurts, .ref pt_planMiners, .ref pt_planPlaces, .ref pt_sold, .ref pt_tubCounts])), (pt_cells, .inl (g 0, 72, .inl ptf_cells))] → va_S A s.heap H locs → ∀ ls : Array Slot, lv_has ls 7 [(5, .int i_1), (4, .int 4), (3, .ref sd), (2, .int x_3), (0, .ref pt), (1, .int a1)] → W p l e ({ frames := 2, cells := 0, slots := 0, locals := 53 } : Room) s m args below meth c H locs (0) (0) (MQ below (va_Qi (fun (r : Int32) (_ : Unit) => (0 ≤ (r).toInt ∧ (r).toInt ≤ 4) ∧ True) (dk_B D A (fun (_ : Unit) => [(pt, .inr (5, [.int pt_shift, .int pt_purse, .ref pt_cells, .ref pt_hurts, .ref pt_planMiners, .ref pt_planPlaces, .ref pt_sold, .ref pt_tubCounts])), (pt_cells, .inl (g 0, 72, .inl ptf_cells))])) A) args s 0 0 A) (F0 m 13 ls []) := by
    intro n
    induction n with
    | zero =>
      intro i_1 x_3 blo_i_1 b_x_3 b_rel1 hm H locs hP hD hS ls hl
      refine lv_iload hx hb dX5_openBeside_13 (lv_at hl 0 rfl) ?_
      refine lv_iload hx hb dX5_openBeside_15 (lv_at hl 1 rfl) ?_
      refine lv_icmp_ge (tgt := 46) hx hb dX5_openBeside_17 (by decide) (fun _ => ?_) (fun c => absurd (dk_gep (k := 4) (by decide +kernel) (by omega)) c)
      refine lv_iload_n hx hb dX5_openBeside_46 rfl (lv_at hl 3 rfl) ?_
      refine W.widen (k := 0) (n := 0) (Nat.le_of_ble_eq_true rfl) (Nat.le_of_ble_eq_true rfl) ?_
      exact dk_iret hx hb hr hlocks rfl hP hD hS () [0, 1] rfl (by decide) ⟨(by omega), trivial⟩ dX5_openBeside_47
    | succ n ih =>
      intro i_1 x_3 blo_i_1 b_x_3 b_rel1 hm H locs hP hD hS ls hl
      refine lv_iload hx hb dX5_openBeside_13 (lv_at hl 0 rfl) ?_
      refine lv_iload hx hb dX5_openBeside_15 (lv_at hl 1 rfl) ?_
      refine lv_icmp_ge (tgt := 46) hx hb dX5_openBeside_17 (by decide) (fun c => absurd c (fun z => absurd (dk_gec (k := 4) (by decide +kernel) z) (by omega))) (fun _ => ?_)
      refine lv_aload_n hx hb dX5_openBeside_20 rfl (lv_at hl 2 rfl) ?_
      refine lv_iload hx hb dX5_openBeside_21 (lv_at hl 0 rfl) ?_
      have hin_5 : vp_in i_1 4 := (dk_inv (by omega) (by omega))
      obtain ⟨x_6, ex_6, jx_6⟩ := dk_side_at hin_5
      refine va_ti hx hb hTs hS hin_5 ex_6 dX5_openBeside_23 ?_
      refine lv_istore (lv' := [(6, .int x_6), (5, .int i_1), (4, .int 4), (3, .ref sd), (2, .int x_3), (0, .ref pt), (1, .int a1)]) hx hb dX5_openBeside_24 hl (by decide) rfl (fun ls hl => ?_)
      refine lv_aload_n hx hb dX5_openBeside_26 rfl (lv_at hl 5 rfl) ?_
      refine lv_iload_n hx hb dX5_openBeside_27 rfl (lv_at hl 6 rfl) ?_
      refine lv_iload hx hb dX5_openBeside_28 (lv_at hl 0 rfl) ?_
      refine lv_iadd hx hb dX5_openBeside_30 ?_
      refine lv_topi (fun x_7 ex_7 => ?_)
      have jx_7 : (x_7).toInt = (a1).toInt + (x_6).toInt := by rw [ex_7]; exact dk_addT rfl rfl (by omega) (by omega)
      refine dk_backi hP hD hS hA (wr := []) [0, 1] [] rfl rfl (by decide) (by decide) (va_runV (As := [.int x_7]) (rest := []) F (c_p_isOpen l g D pt pt_shift pt_purse pt_cells pt_hurts pt_planMiners pt_planPlaces pt_sold pt_tubCounts ptf_cells x_7 (by omega) (by omega) b_ptf_cells (by omega) H.size) (cwV 1 hts gX5_openBeside_X5_isOpen rfl rfl rfl (by decide +kernel) ⟨Nat.le_of_ble_eq_true rfl, Nat.le_of_ble_eq_true rfl⟩) (dk_preV K ST hP hD hS hA [0, 1] rfl (by decide) 0 rfl rfl) rfl rfl hl.1 rfl (lv_room (Nat.le_of_ble_eq_true rfl)) dX5_openBeside_31 ⟨Nat.le_of_ble_eq_true rfl, Nat.le_of_ble_eq_true rfl⟩) (fun r u H locs hw hP hD hS => ?_)
      obtain ⟨x_9, rfl⟩ : ∃ z, z = r := ⟨_, rfl⟩
      obtain ⟨w_8, -⟩ := hw
      have w_8 : 0 ≤ (x_9).toInt ∧ (x_9).toInt ≤ 1 := w_8
      have hP : va_P D vwCl [(pt, .inr (5, [.int pt_shift, .int pt_purse, .ref pt_cells, .ref pt_hurts, .ref pt_planMiners, .ref pt_planPlaces, .ref pt_sold, .ref pt_tubCounts])), (pt_cells, .inl (g 0, 72, .inl ptf_cells))] H := hP
      have hD : va_D A [(pt, .inr (5, [.int pt_shift, .int pt_purse, .ref pt_cells, .ref pt_hurts, .ref pt_planMiners, .ref pt_planPlaces, .ref pt_sold, .ref pt_tubCounts])), (pt_cells, .inl (g 0, 72, .inl ptf_cells))] := hD
      refine lv_if_eq (tgt := 40) hx hb dX5_openBeside_34 (by decide) (fun c_10 => ?_) (fun c_10 => ?_)
      · have jc_10 := dk_eqc (k := 0) (by decide +kernel) c_10
        obtain ⟨x_11, ex_11⟩ : ∃ z, z = i_1 + 1 := ⟨_, rfl⟩
        have jx_11 : (x_11).toInt = (i_1).toInt + 1 := by rw [ex_11]; exact dk_addT rfl (by decide +kernel) (by omega) (by omega)
        refine lv_iinc (v := x_11) (lv' := [(5, .int x_11), (6, .int x_6), (4, .int 4), (3, .ref sd), (2, .int x_3), (0, .ref pt), (1, .int a1)]) hx hb dX5_openBeside_40 hl (k := 1) rfl (by rw [ex_11]; rfl) (by decide) rfl (fun ls hl => ?_)
        refine lv_goto (tgt := 13) hx hb dX5_openBeside_43 (by decide) ?_
        have hP := hP.sub (ws' := [(pt, .inr (5, [.int pt_shift, .int pt_purse, .ref pt_cells, .ref pt_hurts, .ref pt_planMiners, .ref pt_planPlaces, .ref pt_sold, .ref pt_tubCounts])), (pt_cells, .inl (g 0, 72, .inl ptf_cells))]) [0, 1] rfl
        have hD := hD.sub (ws' := [(pt, .inr (5, [.int pt_shift, .int pt_purse, .ref pt_cells, .ref pt_hurts, .ref pt_planMiners, .ref pt_planPlaces, .ref pt_sold, .ref pt_tubCounts])), (pt_cells, .inl (g 0, 72, .inl ptf_cells))]) [0, 1] (by decide) rfl
        exact ih x_11 x_3 (by omega) (by omega) (by omega) (by omega) _ _ hP hD hS _ (lv_sub hl [0, 2, 3, 4, 5, 6] rfl)
      · have jc_10 := dk_neqc (k := 0) (by decide +kernel) c_10
        obtain ⟨x_12, ex_12⟩ : ∃ z, z = x_3 + 1 := ⟨_, rfl⟩
        have jx_12 : (x_12).toInt = (x_3).toInt + 1 := by rw [ex_12]; exact dk_addT rfl (by decide +kernel) (by omega) (by omega)
        refine lv_iinc (v := x_12) (lv' := [(2, .int x_12), (6, .int x_6), (5, .int i_1), (4, .int 4), (3, .ref sd), (0, .ref pt), (1, .int a1)]) hx hb dX5_openBeside_37 hl (k := 4) rfl (by rw [ex_12]; rfl) (by decide) rfl (fun ls hl => ?_)
        obtain ⟨x_13, ex_13⟩ : ∃ z, z = i_1 + 1 := ⟨_, rfl⟩
        have jx_13 : (x_13).toInt = (i_1).toInt + 1 := by rw [ex_13]; exact dk_addT rfl (by decide +kernel) (by omega) (by omega)
        refine lv_iinc (v := x_13) (lv' := [(5, .int x_13), (2, .int x_12), (6, .int x_6), (4, .int 4), (3, .ref sd), (0, .ref pt), (1, .int a1)]) hx hb dX5_openBeside_40 hl (k := 2) rfl (by rw [ex_13]; rfl) (by decide) rfl (fun ls hl => ?_)
        refine lv_goto (tgt := 13) hx hb dX5_openBeside_43 (by decide) ?_
        have hP := hP.sub (ws' := [(pt, .inr (5, [.int pt_shift, .int pt_purse, .ref pt_cells, .ref pt_hurts, .ref pt_planMiners, .ref pt_planPlaces, .ref pt_sold, .ref pt_tubCounts])), (pt_cells, .inl (g 0, 72, .inl ptf_cells))]) [0, 1] rfl
        have hD := hD.sub (ws' := [(pt, .inr (5, [.int pt_shift, .int pt_purse, .ref pt_cells, .ref pt_hurts, .ref pt_planMiners, .ref pt_planPlaces, .ref pt_sold, .ref pt_tubCounts])), (pt_cells, .inl (g 0, 72, .inl ptf_cells))]) [0, 1] (by decide) rfl
        exact ih x_13 x_12 (by omega) (by omega) (by omega) (by omega) _ _ hP hD hS _ (lv_sub hl [0, 3, 4, 1, 5, 6] rfl)
  have hz_14 : (0 : Int32).toInt = 0 := by decide +kernel
  exact loop_2 ((4 : Int) - 0).toNat 0 0 (by omega) (by omega) (by omega) (by omega) _ _ hP hD hS _ (lv_sub hl [0, 1, 2, 3, 4, 5] rfl)
set_option maxHeartbeats 8000000 in
set_option maxRecDepth 100000 in
theorem c_p_canBeDug (l : Launch) (g : Nat → ClassId) (D : va_G) (pt : Nat) (pt_shift : Int32) (pt_purse : Int32) (pt_cells : Nat) (pt_hurts : Nat) (pt_planMiners : Nat) (pt_planPlaces : Nat) (pt_sold : Nat) (pt_tubCounts : Nat) (ptf_cells : Nat → Int32) (a1 : Int32) (b_pt_shift : 0 ≤ (pt_shift).toInt ∧ (pt_shift).toInt ≤ 999) (b_pt_purse : 0 ≤ (pt_purse).toInt ∧ (pt_purse).toInt ≤ 99999) (b_ptf_cells : dk_row 72 ptf_cells dk_Pcel) (b_a1 : 8 ≤ (a1).toInt ∧ (a1).toInt ≤ 63) (sz : Nat) : Met l yX5_canBeDug wsX5_canBeDug ({ frames := 3, cells := 0, slots := 0, locals := 79 } : Room) (dk_Pc g D [(pt, .inr (5, [.int pt_shift, .int pt_purse, .ref pt_cells, .ref pt_hurts, .ref pt_planMiners, .ref pt_planPlaces, .ref pt_sold, .ref pt_tubCounts])), (pt_cells, .inl (g 0, 72, .inl ptf_cells))] sz [.ref pt, .int a1]) (va_Qi (fun (r : Int32) (_ : Unit) => (0 ≤ (r).toInt ∧ (r).toInt ≤ 1) ∧ True) (dk_B D (va_A [(pt, .inr (5, [.int pt_shift, .int pt_purse, .ref pt_cells, .ref pt_hurts, .ref pt_planMiners, .ref pt_planPlaces, .ref pt_sold, .ref pt_tubCounts])), (pt_cells, .inl (g 0, 72, .inl ptf_cells))] sz) (fun (_ : Unit) => [(pt, .inr (5, [.int pt_shift, .int pt_purse, .ref pt_cells, .ref pt_hurts, .ref pt_planMiners, .ref pt_planPlaces, .ref pt_sold, .ref pt_tubCounts])), (pt_cells, .inl (g 0, 72, .inl ptf_cells))])) (va_A [(pt, .inr (5, [.int pt_shift, .int pt_purse, .ref pt_cells, .ref pt_hurts, .ref pt_planMiners, .ref pt_planPlaces, .ref pt_sold, .ref pt_tubCounts])), (pt_cells, .inl (g 0, 72, .inl ptf_cells))] sz)) 0 0 (va_A [(pt, .inr (5, [.int pt_shift, .int pt_purse, .ref pt_cells, .ref pt_hurts, .ref pt_planMiners, .ref pt_planPlaces, .ref pt_sold, .ref pt_tubCounts])), (pt_cells, .inl (g 0, 72, .inl ptf_cells))] sz) := by
  refine dk_met (cc := cX5_canBeDug) (maxL := 2) (ret := (some .boolean)) (by decide) rfl (Nat.le_of_ble_eq_true rfl) ?_
  intro p e s m args below meth c harg hx hb hr hml hts hown hlocks hin hP K hD hS hA ST hsz ls hl
  subst hsz
  generalize va_A [(pt, .inr (5, [.int pt_shift, .int pt_purse, .ref pt_cells, .ref pt_hurts, .ref pt_planMiners, .ref pt_planPlaces, .ref pt_sold, .ref pt_tubCounts])), (pt_cells, .inl (g 0, 72, .inl ptf_cells))] s.heap.size = A at hD hS hA ST ⊢
  have F : CallFix p m c cX5_canBeDug 2 s args wsX5_canBeDug RX5 := ⟨hx, hb, hml, hown, hts⟩
  have hl : lv_has ls 2 [(0, .ref pt), (1, .int a1)] := hl
  refine lv_aload_n hx hb dX5_canBeDug_0 rfl (lv_at hl 0 rfl) ?_
  refine lv_iload_n hx hb dX5_canBeDug_1 rfl (lv_at hl 1 rfl) ?_
  refine dk_backi hP hD hS hA (wr := []) [0, 1] [] rfl rfl (by decide) (by decide) (va_runV (As := [.int a1]) (rest := []) F (c_p_isSolid l g D pt pt_shift pt_purse pt_cells pt_hurts pt_planMiners pt_planPlaces pt_sold pt_tubCounts ptf_cells a1 (by omega) (by omega) b_ptf_cells (by omega) s.heap.size) (cwV 1 hts gX5_canBeDug_X5_isSolid rfl rfl rfl (by decide +kernel) ⟨Nat.le_of_ble_eq_true rfl, Nat.le_of_ble_eq_true rfl⟩) (dk_preV K ST hP hD hS hA [0, 1] rfl (by decide) 0 rfl rfl) rfl rfl hl.1 rfl (lv_room (Nat.le_of_ble_eq_true rfl)) dX5_canBeDug_2 ⟨Nat.le_of_ble_eq_true rfl, Nat.le_of_ble_eq_true rfl⟩) (fun r u H locs hw hP hD hS => ?_)
  obtain ⟨x_2, rfl⟩ : ∃ z, z = r := ⟨_, rfl⟩
  obtain ⟨w_1, -⟩ := hw
  have w_1 : 0 ≤ (x_2).toInt ∧ (x_2).toInt ≤ 1 := w_1
  have hP : va_P D vwCl [(pt, .inr (5, [.int pt_shift, .int pt_purse, .ref pt_cells, .ref pt_hurts, .ref pt_planMiners, .ref pt_planPlaces, .ref pt_sold, .ref pt_tubCounts])), (pt_cells, .inl (g 0, 72, .inl ptf_cells))] H := hP
  have hD : va_D A [(pt, .inr (5, [.int pt_shift, .int pt_purse, .ref pt_cells, .ref pt_hurts, .ref pt_planMiners, .ref pt_planPlaces, .ref pt_sold, .ref pt_tubCounts])), (pt_cells, .inl (g 0, 72, .inl ptf_cells))] := hD
  refine lv_if_eq (tgt := 20) hx hb dX5_canBeDug_5 (by decide) (fun c_3 => ?_) (fun c_3 => ?_)
  · have jc_3 := dk_eqc (k := 0) (by decide +kernel) c_3
    refine lv_iconst (v := 0) hx hb dX5_canBeDug_20 (by decide +kernel) ?_
    refine W.widen (k := 0) (n := 0) (Nat.le_of_ble_eq_true rfl) (Nat.le_of_ble_eq_true rfl) ?_
    exact dk_iret hx hb hr hlocks (by decide +kernel) hP hD hS () [0, 1] rfl (by decide) ⟨(by decide +kernel), trivial⟩ dX5_canBeDug_21
  · have jc_3 := dk_neqc (k := 0) (by decide +kernel) c_3
    refine lv_aload_n hx hb dX5_canBeDug_8 rfl (lv_at hl 0 rfl) ?_
    refine lv_iload_n hx hb dX5_canBeDug_9 rfl (lv_at hl 1 rfl) ?_
    refine dk_backi hP hD hS hA (wr := []) [0, 1] [] rfl rfl (by decide) (by decide) (va_runV (As := [.int a1]) (rest := []) F (c_p_openBeside l g D pt pt_shift pt_purse pt_cells pt_hurts pt_planMiners pt_planPlaces pt_sold pt_tubCounts ptf_cells a1 (by omega) (by omega) b_ptf_cells (by omega) H.size) (cwV 1 hts gX5_canBeDug_X5_openBeside rfl rfl rfl (by decide +kernel) ⟨Nat.le_of_ble_eq_true rfl, Nat.le_of_ble_eq_true rfl⟩) (dk_preV K ST hP hD hS hA [0, 1] rfl (by decide) 0 rfl rfl) rfl rfl hl.1 rfl (lv_room (Nat.le_of_ble_eq_true rfl)) dX5_canBeDug_10 ⟨Nat.le_of_ble_eq_true rfl, Nat.le_of_ble_eq_true rfl⟩) (fun r u H locs hw hP hD hS => ?_)
    obtain ⟨x_5, rfl⟩ : ∃ z, z = r := ⟨_, rfl⟩
    obtain ⟨w_4, -⟩ := hw
    have w_4 : 0 ≤ (x_5).toInt ∧ (x_5).toInt ≤ 4 := w_4
    have hP : va_P D vwCl [(pt, .inr (5, [.int pt_shift, .int pt_purse, .ref pt_cells, .ref pt_hurts, .ref pt_planMiners, .ref pt_planPlaces, .ref pt_sold, .ref pt_tubCounts])), (pt_cells, .inl (g 0, 72, .inl ptf_cells))] H := hP
    have hD : va_D A [(pt, .inr (5, [.int pt_shift, .int pt_purse, .ref pt_cells, .ref pt_hurts, .ref pt_planMiners, .ref pt_planPlaces, .ref pt_sold, .ref pt_tubCounts])), (pt_cells, .inl (g 0, 72, .inl ptf_cells))] := hD
    refine lv_if_le (tgt := 20) hx hb dX5_canBeDug_13 (by decide) (fun c_6 => ?_) (fun c_6 => ?_)
    · have jc_6 := dk_lec (k := 0) (by decide +kernel) c_6
      refine lv_iconst (v := 0) hx hb dX5_canBeDug_20 (by decide +kernel) ?_
      refine W.widen (k := 0) (n := 0) (Nat.le_of_ble_eq_true rfl) (Nat.le_of_ble_eq_true rfl) ?_
      exact dk_iret hx hb hr hlocks (by decide +kernel) hP hD hS () [0, 1] rfl (by decide) ⟨(by decide +kernel), trivial⟩ dX5_canBeDug_21
    · have jc_6 := dk_nlec (k := 0) (by decide +kernel) c_6
      refine lv_iconst (v := 1) hx hb dX5_canBeDug_16 (by decide +kernel) ?_
      refine lv_goto (tgt := 21) hx hb dX5_canBeDug_17 (by decide) ?_
      refine W.widen (k := 0) (n := 0) (Nat.le_of_ble_eq_true rfl) (Nat.le_of_ble_eq_true rfl) ?_
      exact dk_iret hx hb hr hlocks (by decide +kernel) hP hD hS () [0, 1] rfl (by decide) ⟨(by decide +kernel), trivial⟩ dX5_canBeDug_21
