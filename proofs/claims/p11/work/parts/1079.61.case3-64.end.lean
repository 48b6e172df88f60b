section
/-! 61.case3.lean.txt -/
theorem dL_law_985 : decode cL_law 985 = .ok (.aload_n 1, 1) := dk_o43 (by decide +kernel)
theorem dL_law_986 : decode cL_law 986 = .ok (.invokevirtual 129, 3) := dk_o182 (by decide +kernel)
theorem dL_law_989 : decode cL_law 989 = .ok (.pop, 1) := dk_o87 (by decide +kernel)
theorem dL_law_990 : decode cL_law 990 = .ok (.aload_n 2, 1) := dk_o44 (by decide +kernel)
theorem dL_law_991 : decode cL_law 991 = .ok (.invokevirtual 133, 3) := dk_o182 (by decide +kernel)
theorem dL_law_994 : decode cL_law 994 = .ok (.pop, 1) := dk_o87 (by decide +kernel)
theorem dL_law_995 : decode cL_law 995 = .ok (.goto 131, 3) := dk_o167 (by decide +kernel)
theorem dL_law_998 : decode cL_law 998 = .ok (.aload_n 1, 1) := dk_o43 (by decide +kernel)
theorem dL_law_999 : decode cL_law 999 = .ok (.aload_n 0, 1) := dk_o42 (by decide +kernel)
theorem dL_law_1000 : decode cL_law 1000 = .ok (.iload_n 3, 1) := dk_o29 (by decide +kernel)
theorem dL_law_1001 : decode cL_law 1001 = .ok (.iconst 1, 1) := dk_o4 (by decide +kernel)
theorem dL_law_1002 : decode cL_law 1002 = .ok (.iadd, 1) := dk_o96 (by decide +kernel)
theorem dL_law_1003 : decode cL_law 1003 = .ok (.iaload, 1) := dk_o46 (by decide +kernel)
theorem dL_law_1004 : decode cL_law 1004 = .ok (.invokevirtual 134, 3) := dk_o182 (by decide +kernel)
theorem dL_law_1007 : decode cL_law 1007 = .ok (.pop, 1) := dk_o87 (by decide +kernel)
theorem dL_law_1008 : decode cL_law 1008 = .ok (.aload_n 2, 1) := dk_o44 (by decide +kernel)
theorem dL_law_1009 : decode cL_law 1009 = .ok (.aload_n 0, 1) := dk_o42 (by decide +kernel)
theorem dL_law_1010 : decode cL_law 1010 = .ok (.iload_n 3, 1) := dk_o29 (by decide +kernel)
theorem dL_law_1011 : decode cL_law 1011 = .ok (.iconst 1, 1) := dk_o4 (by decide +kernel)
theorem dL_law_1012 : decode cL_law 1012 = .ok (.iadd, 1) := dk_o96 (by decide +kernel)
theorem dL_law_1013 : decode cL_law 1013 = .ok (.iaload, 1) := dk_o46 (by decide +kernel)
theorem dL_law_1014 : decode cL_law 1014 = .ok (.invokevirtual 137, 3) := dk_o182 (by decide +kernel)
theorem dL_law_1017 : decode cL_law 1017 = .ok (.pop, 1) := dk_o87 (by decide +kernel)
theorem dL_law_1018 : decode cL_law 1018 = .ok (.goto 108, 3) := dk_o167 (by decide +kernel)
theorem dL_law_1021 : decode cL_law 1021 = .ok (.aload_n 1, 1) := dk_o43 (by decide +kernel)
theorem dL_law_1022 : decode cL_law 1022 = .ok (.aload_n 0, 1) := dk_o42 (by decide +kernel)
theorem dL_law_1023 : decode cL_law 1023 = .ok (.iload_n 3, 1) := dk_o29 (by decide +kernel)
theorem dL_law_1024 : decode cL_law 1024 = .ok (.iconst 1, 1) := dk_o4 (by decide +kernel)
theorem dL_law_1025 : decode cL_law 1025 = .ok (.iadd, 1) := dk_o96 (by decide +kernel)
theorem dL_law_1026 : decode cL_law 1026 = .ok (.iaload, 1) := dk_o46 (by decide +kernel)
theorem dL_law_1027 : decode cL_law 1027 = .ok (.aload_n 0, 1) := dk_o42 (by decide +kernel)
theorem dL_law_1028 : decode cL_law 1028 = .ok (.iload_n 3, 1) := dk_o29 (by decide +kernel)
theorem dL_law_1029 : decode cL_law 1029 = .ok (.iconst 2, 1) := dk_o5 (by decide +kernel)
theorem dL_law_1030 : decode cL_law 1030 = .ok (.iadd, 1) := dk_o96 (by decide +kernel)
theorem dL_law_1031 : decode cL_law 1031 = .ok (.iaload, 1) := dk_o46 (by decide +kernel)
theorem dL_law_1032 : decode cL_law 1032 = .ok (.invokevirtual 138, 3) := dk_o182 (by decide +kernel)
theorem dL_law_1035 : decode cL_law 1035 = .ok (.pop, 1) := dk_o87 (by decide +kernel)
theorem dL_law_1036 : decode cL_law 1036 = .ok (.aload_n 2, 1) := dk_o44 (by decide +kernel)
theorem dL_law_1037 : decode cL_law 1037 = .ok (.aload_n 0, 1) := dk_o42 (by decide +kernel)
theorem dL_law_1038 : decode cL_law 1038 = .ok (.iload_n 3, 1) := dk_o29 (by decide +kernel)
theorem dL_law_1039 : decode cL_law 1039 = .ok (.iconst 1, 1) := dk_o4 (by decide +kernel)
theorem dL_law_1040 : decode cL_law 1040 = .ok (.iadd, 1) := dk_o96 (by decide +kernel)
theorem dL_law_1041 : decode cL_law 1041 = .ok (.iaload, 1) := dk_o46 (by decide +kernel)
theorem dL_law_1042 : decode cL_law 1042 = .ok (.aload_n 0, 1) := dk_o42 (by decide +kernel)
theorem dL_law_1043 : decode cL_law 1043 = .ok (.iload_n 3, 1) := dk_o29 (by decide +kernel)
theorem dL_law_1044 : decode cL_law 1044 = .ok (.iconst 2, 1) := dk_o5 (by decide +kernel)
theorem dL_law_1045 : decode cL_law 1045 = .ok (.iadd, 1) := dk_o96 (by decide +kernel)
theorem dL_law_1046 : decode cL_law 1046 = .ok (.iaload, 1) := dk_o46 (by decide +kernel)
theorem dL_law_1047 : decode cL_law 1047 = .ok (.invokevirtual 141, 3) := dk_o182 (by decide +kernel)
theorem dL_law_1050 : decode cL_law 1050 = .ok (.pop, 1) := dk_o87 (by decide +kernel)
theorem dL_law_1051 : decode cL_law 1051 = .ok (.goto 75, 3) := dk_o167 (by decide +kernel)
theorem dL_law_1054 : decode cL_law 1054 = .ok (.aload_n 1, 1) := dk_o43 (by decide +kernel)
theorem dL_law_1055 : decode cL_law 1055 = .ok (.invokevirtual 142, 3) := dk_o182 (by decide +kernel)
theorem dL_law_1058 : decode cL_law 1058 = .ok (.pop, 1) := dk_o87 (by decide +kernel)
theorem dL_law_1059 : decode cL_law 1059 = .ok (.aload_n 2, 1) := dk_o44 (by decide +kernel)
theorem dL_law_1060 : decode cL_law 1060 = .ok (.invokevirtual 145, 3) := dk_o182 (by decide +kernel)
theorem dL_law_1063 : decode cL_law 1063 = .ok (.pop, 1) := dk_o87 (by decide +kernel)
theorem dL_law_1064 : decode cL_law 1064 = .ok (.goto 62, 3) := dk_o167 (by decide +kernel)
theorem dL_law_1067 : decode cL_law 1067 = .ok (.aload_n 1, 1) := dk_o43 (by decide +kernel)
theorem dL_law_1068 : decode cL_law 1068 = .ok (.aload_n 0, 1) := dk_o42 (by decide +kernel)
theorem dL_law_1069 : decode cL_law 1069 = .ok (.iload_n 3, 1) := dk_o29 (by decide +kernel)
theorem dL_law_1070 : decode cL_law 1070 = .ok (.iconst 1, 1) := dk_o4 (by decide +kernel)
theorem dL_law_1071 : decode cL_law 1071 = .ok (.iadd, 1) := dk_o96 (by decide +kernel)
theorem dL_law_1072 : decode cL_law 1072 = .ok (.iaload, 1) := dk_o46 (by decide +kernel)
theorem dL_law_1073 : decode cL_law 1073 = .ok (.invokevirtual 146, 3) := dk_o182 (by decide +kernel)
theorem dL_law_1076 : decode cL_law 1076 = .ok (.pop, 1) := dk_o87 (by decide +kernel)
theorem dL_law_1077 : decode cL_law 1077 = .ok (.aload_n 2, 1) := dk_o44 (by decide +kernel)
theorem dL_law_1078 : decode cL_law 1078 = .ok (.aload_n 0, 1) := dk_o42 (by decide +kernel)
theorem dL_law_1079 : decode cL_law 1079 = .ok (.iload_n 3, 1) := dk_o29 (by decide +kernel)
theorem dL_law_1080 : decode cL_law 1080 = .ok (.iconst 1, 1) := dk_o4 (by decide +kernel)
theorem dL_law_1081 : decode cL_law 1081 = .ok (.iadd, 1) := dk_o96 (by decide +kernel)
theorem dL_law_1082 : decode cL_law 1082 = .ok (.iaload, 1) := dk_o46 (by decide +kernel)
theorem dL_law_1083 : decode cL_law 1083 = .ok (.invokevirtual 149, 3) := dk_o182 (by decide +kernel)
theorem dL_law_1086 : decode cL_law 1086 = .ok (.pop, 1) := dk_o87 (by decide +kernel)
theorem dL_law_1087 : decode cL_law 1087 = .ok (.goto 39, 3) := dk_o167 (by decide +kernel)
theorem dL_law_1090 : decode cL_law 1090 = .ok (.aload_n 1, 1) := dk_o43 (by decide +kernel)
theorem dL_law_1091 : decode cL_law 1091 = .ok (.invokevirtual 150, 3) := dk_o182 (by decide +kernel)
theorem dL_law_1094 : decode cL_law 1094 = .ok (.pop, 1) := dk_o87 (by decide +kernel)
theorem dL_law_1095 : decode cL_law 1095 = .ok (.aload_n 2, 1) := dk_o44 (by decide +kernel)
theorem dL_law_1096 : decode cL_law 1096 = .ok (.invokevirtual 153, 3) := dk_o182 (by decide +kernel)
theorem dL_law_1099 : decode cL_law 1099 = .ok (.pop, 1) := dk_o87 (by decide +kernel)
theorem dL_law_1100 : decode cL_law 1100 = .ok (.goto 26, 3) := dk_o167 (by decide +kernel)
theorem dL_law_1103 : decode cL_law 1103 = .ok (.aload_n 1, 1) := dk_o43 (by decide +kernel)
theorem dL_law_1104 : decode cL_law 1104 = .ok (.aload_n 0, 1) := dk_o42 (by decide +kernel)
theorem dL_law_1105 : decode cL_law 1105 = .ok (.iload_n 3, 1) := dk_o29 (by decide +kernel)
theorem dL_law_1106 : decode cL_law 1106 = .ok (.iconst 1, 1) := dk_o4 (by decide +kernel)
theorem dL_law_1107 : decode cL_law 1107 = .ok (.iadd, 1) := dk_o96 (by decide +kernel)
theorem dL_law_1108 : decode cL_law 1108 = .ok (.iaload, 1) := dk_o46 (by decide +kernel)
theorem dL_law_1109 : decode cL_law 1109 = .ok (.invokevirtual 154, 3) := dk_o182 (by decide +kernel)
theorem dL_law_1112 : decode cL_law 1112 = .ok (.pop, 1) := dk_o87 (by decide +kernel)
theorem dL_law_1113 : decode cL_law 1113 = .ok (.aload_n 2, 1) := dk_o44 (by decide +kernel)
theorem dL_law_1114 : decode cL_law 1114 = .ok (.aload_n 0, 1) := dk_o42 (by decide +kernel)
theorem dL_law_1115 : decode cL_law 1115 = .ok (.iload_n 3, 1) := dk_o29 (by decide +kernel)
theorem dL_law_1116 : decode cL_law 1116 = .ok (.iconst 1, 1) := dk_o4 (by decide +kernel)
theorem dL_law_1117 : decode cL_law 1117 = .ok (.iadd, 1) := dk_o96 (by decide +kernel)
theorem dL_law_1118 : decode cL_law 1118 = .ok (.iaload, 1) := dk_o46 (by decide +kernel)
theorem dL_law_1119 : decode cL_law 1119 = .ok (.invokevirtual 157, 3) := dk_o182 (by decide +kernel)
theorem dL_law_1122 : decode cL_law 1122 = .ok (.pop, 1) := dk_o87 (by decide +kernel)
theorem dL_law_1123 : decode cL_law 1123 = .ok (.goto 3, 3) := dk_o167 (by decide +kernel)
theorem wB_1618 : Cond.code yX11_undo cX11_undo 1 (some .boolean) ∈ dgB := List.mem_filter.mpr ⟨tbl_6 _ (List.mem_of_getElem? (i := 89) rfl), rfl⟩
theorem wB_1619 : Cond.methodLink RL 129 yX11_undo ∈ dgB := List.mem_filter.mpr ⟨tbl_6 _ (List.mem_of_getElem? (i := 86) (by decide +kernel)), by decide +kernel⟩
theorem wB_1620 : Cond.instanceMethod yX11_undo ∈ dgB := List.mem_filter.mpr ⟨tbl_6 _ (List.mem_of_getElem? (i := 87) (by decide +kernel)), by decide +kernel⟩
theorem wB_1621 : Cond.selects RX11 yX11_undo yX11_undo ∈ dgB := List.mem_filter.mpr ⟨tbl_6 _ (List.mem_of_getElem? (i := 88) (by decide +kernel)), by decide +kernel⟩
theorem wB_1622 : Cond.code yX12_undo cX12_undo 1 (some .boolean) ∈ dgB := List.mem_filter.mpr ⟨tbl_8 _ (List.mem_of_getElem? (i := 118) rfl), rfl⟩
theorem wB_1623 : Cond.methodLink RL 133 yX12_undo ∈ dgB := List.mem_filter.mpr ⟨tbl_8 _ (List.mem_of_getElem? (i := 115) (by decide +kernel)), by decide +kernel⟩
theorem wB_1624 : Cond.instanceMethod yX12_undo ∈ dgB := List.mem_filter.mpr ⟨tbl_8 _ (List.mem_of_getElem? (i := 116) (by decide +kernel)), by decide +kernel⟩
theorem wB_1625 : Cond.selects RX12 yX12_undo yX12_undo ∈ dgB := List.mem_filter.mpr ⟨tbl_8 _ (List.mem_of_getElem? (i := 117) (by decide +kernel)), by decide +kernel⟩
theorem wB_1626 : Cond.code yX11_seed cX11_seed 2 (some .boolean) ∈ dgB := List.mem_filter.mpr ⟨tbl_6 _ (List.mem_of_getElem? (i := 97) rfl), rfl⟩
theorem wB_1627 : Cond.methodLink RL 134 yX11_seed ∈ dgB := List.mem_filter.mpr ⟨tbl_6 _ (List.mem_of_getElem? (i := 94) (by decide +kernel)), by decide +kernel⟩
theorem wB_1628 : Cond.instanceMethod yX11_seed ∈ dgB := List.mem_filter.mpr ⟨tbl_6 _ (List.mem_of_getElem? (i := 95) (by decide +kernel)), by decide +kernel⟩
theorem wB_1629 : Cond.selects RX11 yX11_seed yX11_seed ∈ dgB := List.mem_filter.mpr ⟨tbl_6 _ (List.mem_of_getElem? (i := 96) (by decide +kernel)), by decide +kernel⟩
theorem wB_1630 : Cond.code yX12_seed cX12_seed 2 (some .boolean) ∈ dgB := List.mem_filter.mpr ⟨tbl_9 _ (List.mem_of_getElem? (i := 146) rfl), rfl⟩
theorem wB_1631 : Cond.methodLink RL 137 yX12_seed ∈ dgB := List.mem_filter.mpr ⟨tbl_9 _ (List.mem_of_getElem? (i := 143) (by decide +kernel)), by decide +kernel⟩
theorem wB_1632 : Cond.instanceMethod yX12_seed ∈ dgB := List.mem_filter.mpr ⟨tbl_9 _ (List.mem_of_getElem? (i := 144) (by decide +kernel)), by decide +kernel⟩
theorem wB_1633 : Cond.selects RX12 yX12_seed yX12_seed ∈ dgB := List.mem_filter.mpr ⟨tbl_9 _ (List.mem_of_getElem? (i := 145) (by decide +kernel)), by decide +kernel⟩
theorem wB_1634 : Cond.code yX11_kept cX11_kept 3 (some .int) ∈ dgB := List.mem_filter.mpr ⟨tbl_6 _ (List.mem_of_getElem? (i := 101) rfl), rfl⟩
theorem wB_1635 : Cond.methodLink RL 138 yX11_kept ∈ dgB := List.mem_filter.mpr ⟨tbl_6 _ (List.mem_of_getElem? (i := 98) (by decide +kernel)), by decide +kernel⟩
theorem wB_1636 : Cond.instanceMethod yX11_kept ∈ dgB := List.mem_filter.mpr ⟨tbl_6 _ (List.mem_of_getElem? (i := 99) (by decide +kernel)), by decide +kernel⟩
theorem wB_1637 : Cond.selects RX11 yX11_kept yX11_kept ∈ dgB := List.mem_filter.mpr ⟨tbl_6 _ (List.mem_of_getElem? (i := 100) (by decide +kernel)), by decide +kernel⟩
theorem wB_1638 : Cond.code yX12_kept cX12_kept 3 (some .int) ∈ dgB := List.mem_filter.mpr ⟨tbl_9 _ (List.mem_of_getElem? (i := 150) rfl), rfl⟩
theorem wB_1639 : Cond.methodLink RL 141 yX12_kept ∈ dgB := List.mem_filter.mpr ⟨tbl_9 _ (List.mem_of_getElem? (i := 147) (by decide +kernel)), by decide +kernel⟩
theorem wB_1640 : Cond.instanceMethod yX12_kept ∈ dgB := List.mem_filter.mpr ⟨tbl_9 _ (List.mem_of_getElem? (i := 148) (by decide +kernel)), by decide +kernel⟩
theorem wB_1641 : Cond.selects RX12 yX12_kept yX12_kept ∈ dgB := List.mem_filter.mpr ⟨tbl_9 _ (List.mem_of_getElem? (i := 149) (by decide +kernel)), by decide +kernel⟩
theorem wB_1642 : Cond.code yX11_image cX11_image 1 (some .int) ∈ dgB := List.mem_filter.mpr ⟨tbl_6 _ (List.mem_of_getElem? (i := 105) rfl), rfl⟩
theorem wB_1643 : Cond.methodLink RL 142 yX11_image ∈ dgB := List.mem_filter.mpr ⟨tbl_6 _ (List.mem_of_getElem? (i := 102) (by decide +kernel)), by decide +kernel⟩
theorem wB_1644 : Cond.instanceMethod yX11_image ∈ dgB := List.mem_filter.mpr ⟨tbl_6 _ (List.mem_of_getElem? (i := 103) (by decide +kernel)), by decide +kernel⟩
theorem wB_1645 : Cond.selects RX11 yX11_image yX11_image ∈ dgB := List.mem_filter.mpr ⟨tbl_6 _ (List.mem_of_getElem? (i := 104) (by decide +kernel)), by decide +kernel⟩
theorem wB_1646 : Cond.code yX12_image cX12_image 3 (some .int) ∈ dgB := List.mem_filter.mpr ⟨tbl_9 _ (List.mem_of_getElem? (i := 154) rfl), rfl⟩
theorem wB_1647 : Cond.methodLink RL 145 yX12_image ∈ dgB := List.mem_filter.mpr ⟨tbl_9 _ (List.mem_of_getElem? (i := 151) (by decide +kernel)), by decide +kernel⟩
theorem wB_1648 : Cond.instanceMethod yX12_image ∈ dgB := List.mem_filter.mpr ⟨tbl_9 _ (List.mem_of_getElem? (i := 152) (by decide +kernel)), by decide +kernel⟩
theorem wB_1649 : Cond.selects RX12 yX12_image yX12_image ∈ dgB := List.mem_filter.mpr ⟨tbl_9 _ (List.mem_of_getElem? (i := 153) (by decide +kernel)), by decide +kernel⟩
theorem wB_1650 : Cond.code yX11_octet cX11_octet 2 (some .int) ∈ dgB := List.mem_filter.mpr ⟨tbl_6 _ (List.mem_of_getElem? (i := 123) rfl), rfl⟩
theorem wB_1651 : Cond.methodLink RL 146 yX11_octet ∈ dgB := List.mem_filter.mpr ⟨tbl_6 _ (List.mem_of_getElem? (i := 120) (by decide +kernel)), by decide +kernel⟩
theorem wB_1652 : Cond.instanceMethod yX11_octet ∈ dgB := List.mem_filter.mpr ⟨tbl_6 _ (List.mem_of_getElem? (i := 121) (by decide +kernel)), by decide +kernel⟩
theorem wB_1653 : Cond.selects RX11 yX11_octet yX11_octet ∈ dgB := List.mem_filter.mpr ⟨tbl_6 _ (List.mem_of_getElem? (i := 122) (by decide +kernel)), by decide +kernel⟩
theorem wB_1654 : Cond.code yX12_octet cX12_octet 2 (some .int) ∈ dgB := List.mem_filter.mpr ⟨tbl_9 _ (List.mem_of_getElem? (i := 162) rfl), rfl⟩
theorem wB_1655 : Cond.methodLink RL 149 yX12_octet ∈ dgB := List.mem_filter.mpr ⟨tbl_9 _ (List.mem_of_getElem? (i := 159) (by decide +kernel)), by decide +kernel⟩
theorem wB_1656 : Cond.instanceMethod yX12_octet ∈ dgB := List.mem_filter.mpr ⟨tbl_9 _ (List.mem_of_getElem? (i := 160) (by decide +kernel)), by decide +kernel⟩
theorem wB_1657 : Cond.selects RX12 yX12_octet yX12_octet ∈ dgB := List.mem_filter.mpr ⟨tbl_9 _ (List.mem_of_getElem? (i := 161) (by decide +kernel)), by decide +kernel⟩
theorem wB_1658 : Cond.code yX11_on cX11_on 2 (some .boolean) ∈ dgB := List.mem_filter.mpr ⟨tbl_6 _ (List.mem_of_getElem? (i := 127) rfl), rfl⟩
theorem wB_1659 : Cond.methodLink RL 150 yX11_on ∈ dgB := List.mem_filter.mpr ⟨tbl_6 _ (List.mem_of_getElem? (i := 124) (by decide +kernel)), by decide +kernel⟩
theorem wB_1660 : Cond.instanceMethod yX11_on ∈ dgB := List.mem_filter.mpr ⟨tbl_6 _ (List.mem_of_getElem? (i := 125) (by decide +kernel)), by decide +kernel⟩
theorem wB_1661 : Cond.selects RX11 yX11_on yX11_on ∈ dgB := List.mem_filter.mpr ⟨tbl_6 _ (List.mem_of_getElem? (i := 126) (by decide +kernel)), by decide +kernel⟩
theorem wB_1662 : Cond.code yX12_on cX12_on 2 (some .boolean) ∈ dgB := List.mem_filter.mpr ⟨tbl_9 _ (List.mem_of_getElem? (i := 166) rfl), rfl⟩
theorem wB_1663 : Cond.methodLink RL 153 yX12_on ∈ dgB := List.mem_filter.mpr ⟨tbl_9 _ (List.mem_of_getElem? (i := 163) (by decide +kernel)), by decide +kernel⟩
theorem wB_1664 : Cond.instanceMethod yX12_on ∈ dgB := List.mem_filter.mpr ⟨tbl_9 _ (List.mem_of_getElem? (i := 164) (by decide +kernel)), by decide +kernel⟩
theorem wB_1665 : Cond.selects RX12 yX12_on yX12_on ∈ dgB := List.mem_filter.mpr ⟨tbl_9 _ (List.mem_of_getElem? (i := 165) (by decide +kernel)), by decide +kernel⟩
theorem wB_1666 : Cond.code yX11_status cX11_status 2 (some .int) ∈ dgB := List.mem_filter.mpr ⟨tbl_6 _ (List.mem_of_getElem? (i := 155) rfl), rfl⟩
theorem wB_1667 : Cond.methodLink RL 154 yX11_status ∈ dgB := List.mem_filter.mpr ⟨tbl_6 _ (List.mem_of_getElem? (i := 152) (by decide +kernel)), by decide +kernel⟩
theorem wB_1668 : Cond.instanceMethod yX11_status ∈ dgB := List.mem_filter.mpr ⟨tbl_6 _ (List.mem_of_getElem? (i := 153) (by decide +kernel)), by decide +kernel⟩
theorem wB_1669 : Cond.selects RX11 yX11_status yX11_status ∈ dgB := List.mem_filter.mpr ⟨tbl_6 _ (List.mem_of_getElem? (i := 154) (by decide +kernel)), by decide +kernel⟩
theorem wB_1670 : Cond.code yX12_status cX12_status 2 (some .int) ∈ dgB := List.mem_filter.mpr ⟨tbl_8 _ (List.mem_of_getElem? (i := 114) rfl), rfl⟩
theorem wB_1671 : Cond.methodLink RL 157 yX12_status ∈ dgB := List.mem_filter.mpr ⟨tbl_8 _ (List.mem_of_getElem? (i := 111) (by decide +kernel)), by decide +kernel⟩
theorem wB_1672 : Cond.instanceMethod yX12_status ∈ dgB := List.mem_filter.mpr ⟨tbl_8 _ (List.mem_of_getElem? (i := 112) (by decide +kernel)), by decide +kernel⟩
theorem wB_1673 : Cond.selects RX12 yX12_status yX12_status ∈ dgB := List.mem_filter.mpr ⟨tbl_8 _ (List.mem_of_getElem? (i := 113) (by decide +kernel)), by decide +kernel⟩
set_option maxHeartbeats 8000000 in
set_option maxRecDepth 100000 in
theorem law_case_27 {p : Program} {e : Env} {s : State} {m : MethodId} {below : List Frame} {meth : Method} {c : Code} (l : Launch) {b L : Nat} {xs : Nat → Int32} {g : Nat → ClassId} {D : va_G} {A : Nat → Prop} {oX oM : Nat} (C : law_St p s m meth c b L xs g D A) (ST : dk_ST A s s.heap) (hO : oX + 380 ≤ oM) (hoX : ∀ i, A (oX + i)) (hoM : ∀ i, A (oM + i)) {H : Heap} {locs : List Loc} {ls : Array Slot} {SX SM : dg_S} (hP : va_P D vwCl (dg_w g shX oX rfX SX) H) (hM : va_P D vwCl (dg_w g shM oM rfM SM) H) (hS : va_S A s.heap H locs) (IX : law_X oX SX) (IM : law_M oM SM) (IT : law_T SX SM) (IL : law_L oX SX SM) {x : Int32} (hx0 : 0 ≤ x.toInt) (hxL : x.toInt + 6 ≤ L) (hL : L ≤ 3072) (hl : lv_has ls 4 [(3, .int x), (2, .ref (oM + 0)), (1, .ref (oX + 0)), (0, .ref b)])
    (kk : ∀ (SX SM : dg_S) (H : Heap) (locs : List Loc) (ls : Array Slot), va_P D vwCl (dg_w g shX oX rfX SX) H → va_P D vwCl (dg_w g shM oM rfM SM) H → va_S A s.heap H locs → law_X oX SX → law_M oM SM → law_T SX SM → law_L oX SX SM → lv_has ls 4 [(3, .int x), (2, .ref (oM + 0)), (1, .ref (oX + 0)), (0, .ref b)] → W p l e room_1 s m #[Value.ref b] below meth c H locs 431 78943 (lw_Z below #[Value.ref b] s) (F0 m 1126 ls [])) : W p l e room_1 s m #[Value.ref b] below meth c H locs 431 78943 (lw_Z below #[Value.ref b] s) (F0 m 985 ls []) := by
  obtain ⟨hx, hb, hr, hml, hown, hts, hX, hbl, hlocks, K, hA, hAi⟩ := C
  have hbA : ¬ A b := fun q => Nat.not_le.mpr hbl (hAi b q)
  have F : CallFix p m c cL_law 4 s #[Value.ref b] lw_tbl RL := ⟨hx, hb, hml, hown, hts⟩
  obtain ⟨I0, Z1, Z2, Z3, Z4, Z6⟩ := IX
  obtain ⟨J0, ZB, ZS, ZW, ZD⟩ := IM
  obtain ⟨t, fX, fM, hBY⟩ := IT
  obtain ⟨gD, gE, LW0⟩ := IL
  have hgD := LW0.2.2.2.1.1.1
  have hgE := LW0.2.2.2.1.1.2.1
  have hgne := LW0.2.2.2.1.1.2.2
  have fgD := LW0.2.2.2.1.2.1
  have fgE := LW0.2.2.2.1.2.2
  have b_t : 0 ≤ (t).toInt ∧ (t).toInt ≤ 1600 := dg_I.intb (lo := 0) (hi := 1600) I0 sX_1 (by decide +kernel) fX
  refine lv_aload_n hx hb dL_law_985 rfl (lv_at hl 2 rfl) ?_
  refine lw_calli hS (fun i _ => hoX i) hA (va_runV (As := []) (rest := []) F (c_d_undo l g D oX SX Z1 Z2 Z3 Z4 Z6 I0 H.size) (cwV 0 hts (lw_V wB_1619 wB_1620 wB_1621 wB_610 wB_1618) rfl rfl rfl (by decide +kernel) ⟨Nat.le_of_ble_eq_true rfl, Nat.le_of_ble_eq_true rfl⟩) (dg_preV sX_0 rfl K ST hP hS (fun i _ => hoX i) hA) rfl rfl hl.1 rfl (lv_room (Nat.le_of_ble_eq_true rfl)) dL_law_986 ⟨Nat.le_of_ble_eq_true rfl, Nat.le_of_ble_eq_true rfl⟩) hM (lw_apX hO) (fun r1 S1 hw1 H locs hP hM hS => ?_)
  obtain ⟨I1, m1, w1_0, w1_1, w1_2, w1_3, w1_4, w1_5, w1_6, -⟩ := hw1
  have Z1_1 : Z1X S1 := (Z1X.keep Z1 m1 (dk_dq rfl) (dk_dq rfl) (dk_dq rfl))
  have Z2_1 : Z2X S1 := (Z2X.keep Z2 m1 (dk_dq rfl) (dk_dq rfl))
  have Z3_1 : Z3X oX S1 := w1_2
  have Z4_1 : Z4X S1 := w1_3
  have Z6_1 : Z6X S1 := w1_4
  have br1 : 0 ≤ (r1).toInt ∧ (r1).toInt ≤ 1 := w1_0
  have fX_1 : S1.1 1 1 = .int t := (m1.1 1 1 _ sX_1 (dk_dq rfl)).trans fX
  refine lv_pop hx hb dL_law_989 rfl ?_
  refine lv_aload_n hx hb dL_law_990 rfl (lv_at hl 1 rfl) ?_
  refine lw_calli hS (fun i _ => hoM i) hA (va_runV (As := []) (rest := []) F (c_m_undo l g D oM SM ZB ZS J0 H.size) (cwV 0 hts (lw_V wB_1623 wB_1624 wB_1625 wB_297 wB_1622) rfl rfl rfl (by decide +kernel) ⟨Nat.le_of_ble_eq_true rfl, Nat.le_of_ble_eq_true rfl⟩) (dg_preV sM_0 rfl K ST hM hS (fun i _ => hoM i) hA) rfl rfl hl.1 rfl (lv_room (Nat.le_of_ble_eq_true rfl)) dL_law_991 ⟨Nat.le_of_ble_eq_true rfl, Nat.le_of_ble_eq_true rfl⟩) hP (lw_apM hO) (fun r2 S2 hw2 H locs hM hP hS => ?_)
  obtain ⟨I2, m2, w2_0, w2_1, w2_2, w2_3, -⟩ := hw2
  have ZB_2 : ZBM S2 := (ZBM.keep ZB m2 (dk_dq rfl) (dk_dq rfl) (dk_dq rfl) (dk_dq rfl) (dk_dq rfl))
  have ZS_2 : ZSM S2 := w2_2
  have ZW_2 : ZWM S2 := (ZWM.keep ZW m2 (dk_dq rfl) (dk_dq rfl) (dk_dq rfl) (dk_dq rfl))
  have ZD_2 : ZDM S2 := (ZDM.keep ZD m2 (dk_dq rfl))
  have br2 : 0 ≤ (r2).toInt ∧ (r2).toInt ≤ 1 := w2_0
  have fM_2 : S2.1 0 1 = .int t := (m2.1 0 1 _ sM_0 (dk_dq rfl)).trans fM
  obtain ⟨eq9, LW1⟩ := W_undo LW0 m1 m2 (by (repeat' apply And.intro) <;> decide) (by (repeat' apply And.intro) <;> decide) w1_1 w2_1 w1_6 w2_3
  refine lv_pop hx hb dL_law_994 rfl ?_
  refine lv_goto (tgt := 1126) hx hb dL_law_995 (dk_dq rfl) ?_
  exact kk S1 S2 H locs ls hP hM hS ⟨I1, Z1_1, Z2_1, Z3_1, Z4_1, Z6_1⟩ ⟨I2, ZB_2, ZS_2, ZW_2, ZD_2⟩ ⟨t, fX_1, fM_2, fun j hj => by rw [(m1.2 2 _ sX_2 (dk_dq rfl)).1, (m2.2 1 _ sM_1 (dk_dq rfl)).1]; exact hBY j hj⟩ ⟨_, _, LW1⟩ hl
set_option maxHeartbeats 8000000 in
set_option maxRecDepth 100000 in
theorem law_case_28 {p : Program} {e : Env} {s : State} {m : MethodId} {below : List Frame} {meth : Method} {c : Code} (l : Launch) {b L : Nat} {xs : Nat → Int32} {g : Nat → ClassId} {D : va_G} {A : Nat → Prop} {oX oM : Nat} (C : law_St p s m meth c b L xs g D A) (ST : dk_ST A s s.heap) (hO : oX + 380 ≤ oM) (hoX : ∀ i, A (oX + i)) (hoM : ∀ i, A (oM + i)) {H : Heap} {locs : List Loc} {ls : Array Slot} {SX SM : dg_S} (hP : va_P D vwCl (dg_w g shX oX rfX SX) H) (hM : va_P D vwCl (dg_w g shM oM rfM SM) H) (hS : va_S A s.heap H locs) (IX : law_X oX SX) (IM : law_M oM SM) (IT : law_T SX SM) (IL : law_L oX SX SM) {x : Int32} (hx0 : 0 ≤ x.toInt) (hxL : x.toInt + 6 ≤ L) (hL : L ≤ 3072) (hl : lv_has ls 4 [(3, .int x), (2, .ref (oM + 0)), (1, .ref (oX + 0)), (0, .ref b)])
    (kk : ∀ (SX SM : dg_S) (H : Heap) (locs : List Loc) (ls : Array Slot), va_P D vwCl (dg_w g shX oX rfX SX) H → va_P D vwCl (dg_w g shM oM rfM SM) H → va_S A s.heap H locs → law_X oX SX → law_M oM SM → law_T SX SM → law_L oX SX SM → lv_has ls 4 [(3, .int x), (2, .ref (oM + 0)), (1, .ref (oX + 0)), (0, .ref b)] → W p l e room_1 s m #[Value.ref b] below meth c H locs 431 78943 (lw_Z below #[Value.ref b] s) (F0 m 1126 ls [])) : W p l e room_1 s m #[Value.ref b] below meth c H locs 431 78943 (lw_Z below #[Value.ref b] s) (F0 m 998 ls []) := by
  obtain ⟨hx, hb, hr, hml, hown, hts, hX, hbl, hlocks, K, hA, hAi⟩ := C
  have hbA : ¬ A b := fun q => Nat.not_le.mpr hbl (hAi b q)
  have F : CallFix p m c cL_law 4 s #[Value.ref b] lw_tbl RL := ⟨hx, hb, hml, hown, hts⟩
  obtain ⟨I0, Z1, Z2, Z3, Z4, Z6⟩ := IX
  obtain ⟨J0, ZB, ZS, ZW, ZD⟩ := IM
  obtain ⟨t, fX, fM, hBY⟩ := IT
  obtain ⟨gD, gE, LW0⟩ := IL
  have hgD := LW0.2.2.2.1.1.1
  have hgE := LW0.2.2.2.1.1.2.1
  have hgne := LW0.2.2.2.1.1.2.2
  have fgD := LW0.2.2.2.1.2.1
  have fgE := LW0.2.2.2.1.2.2
  have b_t : 0 ≤ (t).toInt ∧ (t).toInt ≤ 1600 := dg_I.intb (lo := 0) (hi := 1600) I0 sX_1 (by decide +kernel) fX
  have i1 : (x + 1).toInt = x.toInt + 1 := dk_addT2 rfl (by decide +kernel) (by omega)
  obtain ⟨a1, ha1⟩ : ∃ a, a = xs (x + 1).toNatClampNeg := ⟨_, rfl⟩
  refine lv_aload_n hx hb dL_law_998 rfl (lv_at hl 2 rfl) ?_
  refine lv_aload_n hx hb dL_law_999 rfl (lv_at hl 3 rfl) ?_
  refine lv_iload_n hx hb dL_law_1000 rfl (lv_at hl 0 rfl) ?_
  refine lv_iconst (v := 1) hx hb dL_law_1001 (by decide +kernel) ?_
  refine lv_iadd hx hb dL_law_1002 ?_
  refine va_sld hx hb hX hbl hbA hS (dk_inv2 (by omega)) dL_law_1003 ?_
  refine dk_top (y := a1) ha1.symm ?_
  refine lw_calli hS (fun i _ => hoX i) hA (va_runV (As := [.int a1]) (rest := []) F (c_d_seed l g D oX SX a1 Z1 Z2 Z3 Z4 Z6 I0 H.size) (cwV 1 hts (lw_V wB_1627 wB_1628 wB_1629 wB_610 wB_1626) rfl rfl rfl (by decide +kernel) ⟨Nat.le_of_ble_eq_true rfl, Nat.le_of_ble_eq_true rfl⟩) (dg_preV sX_0 rfl K ST hP hS (fun i _ => hoX i) hA) rfl rfl hl.1 rfl (lv_room (Nat.le_of_ble_eq_true rfl)) dL_law_1004 ⟨Nat.le_of_ble_eq_true rfl, Nat.le_of_ble_eq_true rfl⟩) hM (lw_apX hO) (fun r1 S1 hw1 H locs hP hM hS => ?_)
  obtain ⟨I1, m1, w1_0, w1_1, w1_2, -⟩ := hw1
  have Z1_1 : Z1X S1 := (Z1X.keep Z1 m1 (dk_dq rfl) (dk_dq rfl) (dk_dq rfl))
  have Z2_1 : Z2X S1 := (Z2X.keep Z2 m1 (dk_dq rfl) (dk_dq rfl))
  have Z3_1 : Z3X oX S1 := (Z3X.keep Z3 m1 (dg_FG.sm m1 (dk_dq rfl)) (dk_dq rfl))
  have Z4_1 : Z4X S1 := (Z4X.keep Z4 m1 (dg_FG.sm m1 (dk_dq rfl)) (dk_dq rfl) (dk_dq rfl))
  have Z6_1 : Z6X S1 := (Z6X.keep Z6 m1 (dg_FG.sm m1 (dk_dq rfl)))
  have br1 : 0 ≤ (r1).toInt ∧ (r1).toInt ≤ 1 := w1_0
  have qr1_0 : (r1).toInt = 1 ↔ 0 ≤ (a1).toInt := w1_1
  have fX_1 : S1.1 1 1 = .int t := (m1.1 1 1 _ sX_1 (dk_dq rfl)).trans fX
  refine lv_pop hx hb dL_law_1007 rfl ?_
  refine lv_aload_n hx hb dL_law_1008 rfl (lv_at hl 1 rfl) ?_
  refine lv_aload_n hx hb dL_law_1009 rfl (lv_at hl 3 rfl) ?_
  refine lv_iload_n hx hb dL_law_1010 rfl (lv_at hl 0 rfl) ?_
  refine lv_iconst (v := 1) hx hb dL_law_1011 (by decide +kernel) ?_
  refine lv_iadd hx hb dL_law_1012 ?_
  refine va_sld hx hb hX hbl hbA hS (dk_inv2 (by omega)) dL_law_1013 ?_
  refine dk_top (y := a1) ha1.symm ?_
  refine lw_calli hS (fun i _ => hoM i) hA (va_runV (As := [.int a1]) (rest := []) F (c_m_seed l g D oM SM a1 ZD J0 H.size) (cwV 1 hts (lw_V wB_1631 wB_1632 wB_1633 wB_297 wB_1630) rfl rfl rfl (by decide +kernel) ⟨Nat.le_of_ble_eq_true rfl, Nat.le_of_ble_eq_true rfl⟩) (dg_preV sM_0 rfl K ST hM hS (fun i _ => hoM i) hA) rfl rfl hl.1 rfl (lv_room (Nat.le_of_ble_eq_true rfl)) dL_law_1014 ⟨Nat.le_of_ble_eq_true rfl, Nat.le_of_ble_eq_true rfl⟩) hP (lw_apM hO) (fun r2 S2 hw2 H locs hM hP hS => ?_)
  obtain ⟨I2, m2, w2_0, w2_1, w2_2, w2_3, -⟩ := hw2
  have ZB_2 : ZBM S2 := (ZBM.keep ZB m2 (dk_dq rfl) (dk_dq rfl) (dk_dq rfl) (dk_dq rfl) (dk_dq rfl))
  have ZS_2 : ZSM S2 := (ZSM.keep ZS m2 (dk_dq rfl))
  have ZW_2 : ZWM S2 := (ZWM.keep ZW m2 (dk_dq rfl) (dk_dq rfl) (dk_dq rfl) (dk_dq rfl))
  have ZD_2 : ZDM S2 := w2_2
  have br2 : 0 ≤ (r2).toInt ∧ (r2).toInt ≤ 1 := w2_0
  have qr2_0 : (r2).toInt = 1 ↔ 0 ≤ (a1).toInt := w2_1
  have fM_2 : S2.1 0 1 = .int t := (m2.1 0 1 _ sM_0 (dk_dq rfl)).trans fM
  obtain ⟨eq9, LW1⟩ := W_seed LW0 w1_2 w2_3
  refine lv_pop hx hb dL_law_1017 rfl ?_
  refine lv_goto (tgt := 1126) hx hb dL_law_1018 (dk_dq rfl) ?_
  exact kk S1 S2 H locs ls hP hM hS ⟨I1, Z1_1, Z2_1, Z3_1, Z4_1, Z6_1⟩ ⟨I2, ZB_2, ZS_2, ZW_2, ZD_2⟩ ⟨t, fX_1, fM_2, fun j hj => by rw [(m1.2 2 _ sX_2 (dk_dq rfl)).1, (m2.2 1 _ sM_1 (dk_dq rfl)).1]; exact hBY j hj⟩ ⟨_, _, LW1⟩ hl
set_option maxHeartbeats 8000000 in
set_option maxRecDepth 100000 in
theorem law_case_29 {p : Program} {e : Env} {s : State} {m : MethodId} {below : List Frame} {meth : Method} {c : Code} (l : Launch) {b L : Nat} {xs : Nat → Int32} {g : Nat → ClassId} {D : va_G} {A : Nat → Prop} {oX oM : Nat} (C : law_St p s m meth c b L xs g D A) (ST : dk_ST A s s.heap) (hO : oX + 380 ≤ oM) (hoX : ∀ i, A (oX + i)) (hoM : ∀ i, A (oM + i)) {H : Heap} {locs : List Loc} {ls : Array Slot} {SX SM : dg_S} (hP : va_P D vwCl (dg_w g shX oX rfX SX) H) (hM : va_P D vwCl (dg_w g shM oM rfM SM) H) (hS : va_S A s.heap H locs) (IX : law_X oX SX) (IM : law_M oM SM) (IT : law_T SX SM) (IL : law_L oX SX SM) {x : Int32} (hx0 : 0 ≤ x.toInt) (hxL : x.toInt + 6 ≤ L) (hL : L ≤ 3072) (hl : lv_has ls 4 [(3, .int x), (2, .ref (oM + 0)), (1, .ref (oX + 0)), (0, .ref b)])
    (kk : ∀ (SX SM : dg_S) (H : Heap) (locs : List Loc) (ls : Array Slot), va_P D vwCl (dg_w g shX oX rfX SX) H → va_P D vwCl (dg_w g shM oM rfM SM) H → va_S A s.heap H locs → law_X oX SX → law_M oM SM → law_T SX SM → law_L oX SX SM → lv_has ls 4 [(3, .int x), (2, .ref (oM + 0)), (1, .ref (oX + 0)), (0, .ref b)] → W p l e room_1 s m #[Value.ref b] below meth c H locs 431 78943 (lw_Z below #[Value.ref b] s) (F0 m 1126 ls [])) : W p l e room_1 s m #[Value.ref b] below meth c H locs 431 78943 (lw_Z below #[Value.ref b] s) (F0 m 1021 ls []) := by
  obtain ⟨hx, hb, hr, hml, hown, hts, hX, hbl, hlocks, K, hA, hAi⟩ := C
  have hbA : ¬ A b := fun q => Nat.not_le.mpr hbl (hAi b q)
  have F : CallFix p m c cL_law 4 s #[Value.ref b] lw_tbl RL := ⟨hx, hb, hml, hown, hts⟩
  obtain ⟨I0, Z1, Z2, Z3, Z4, Z6⟩ := IX
  obtain ⟨J0, ZB, ZS, ZW, ZD⟩ := IM
  obtain ⟨t, fX, fM, hBY⟩ := IT
  obtain ⟨gD, gE, LW0⟩ := IL
  have hgD := LW0.2.2.2.1.1.1
  have hgE := LW0.2.2.2.1.1.2.1
  have hgne := LW0.2.2.2.1.1.2.2
  have fgD := LW0.2.2.2.1.2.1
  have fgE := LW0.2.2.2.1.2.2
  have b_t : 0 ≤ (t).toInt ∧ (t).toInt ≤ 1600 := dg_I.intb (lo := 0) (hi := 1600) I0 sX_1 (by decide +kernel) fX
  have i1 : (x + 1).toInt = x.toInt + 1 := dk_addT2 rfl (by decide +kernel) (by omega)
  obtain ⟨a1, ha1⟩ : ∃ a, a = xs (x + 1).toNatClampNeg := ⟨_, rfl⟩
  have i2 : (x + 2).toInt = x.toInt + 2 := dk_addT2 rfl (by decide +kernel) (by omega)
  obtain ⟨a2, ha2⟩ : ∃ a, a = xs (x + 2).toNatClampNeg := ⟨_, rfl⟩
  refine lv_aload_n hx hb dL_law_1021 rfl (lv_at hl 2 rfl) ?_
  refine lv_aload_n hx hb dL_law_1022 rfl (lv_at hl 3 rfl) ?_
  refine lv_iload_n hx hb dL_law_1023 rfl (lv_at hl 0 rfl) ?_
  refine lv_iconst (v := 1) hx hb dL_law_1024 (by decide +kernel) ?_
  refine lv_iadd hx hb dL_law_1025 ?_
  refine va_sld hx hb hX hbl hbA hS (dk_inv2 (by omega)) dL_law_1026 ?_
  refine dk_top (y := a1) ha1.symm ?_
  refine lv_aload_n hx hb dL_law_1027 rfl (lv_at hl 3 rfl) ?_
  refine lv_iload_n hx hb dL_law_1028 rfl (lv_at hl 0 rfl) ?_
  refine lv_iconst (v := 2) hx hb dL_law_1029 (by decide +kernel) ?_
  refine lv_iadd hx hb dL_law_1030 ?_
  refine va_sld hx hb hX hbl hbA hS (dk_inv2 (by omega)) dL_law_1031 ?_
  refine dk_top (y := a2) ha2.symm ?_
  refine lw_calli hS (fun i _ => hoX i) hA (va_runV (As := [.int a1, .int a2]) (rest := []) F (c_d_kept l g D oX SX a1 a2 Z1 Z2 Z3 Z4 Z6 I0 H.size) (cwV 2 hts (lw_V wB_1635 wB_1636 wB_1637 wB_610 wB_1634) rfl rfl rfl (by decide +kernel) ⟨Nat.le_of_ble_eq_true rfl, Nat.le_of_ble_eq_true rfl⟩) (dg_preV sX_0 rfl K ST hP hS (fun i _ => hoX i) hA) rfl rfl hl.1 rfl (lv_room (Nat.le_of_ble_eq_true rfl)) dL_law_1032 ⟨Nat.le_of_ble_eq_true rfl, Nat.le_of_ble_eq_true rfl⟩) hM (lw_apX hO) (fun r1 S1 hw1 H locs hP hM hS => ?_)
  rw [hw1.1] at hP
  obtain ⟨-, w1_0, -⟩ := hw1
  refine lv_pop hx hb dL_law_1035 rfl ?_
  refine lv_aload_n hx hb dL_law_1036 rfl (lv_at hl 1 rfl) ?_
  refine lv_aload_n hx hb dL_law_1037 rfl (lv_at hl 3 rfl) ?_
  refine lv_iload_n hx hb dL_law_1038 rfl (lv_at hl 0 rfl) ?_
  refine lv_iconst (v := 1) hx hb dL_law_1039 (by decide +kernel) ?_
  refine lv_iadd hx hb dL_law_1040 ?_
  refine va_sld hx hb hX hbl hbA hS (dk_inv2 (by omega)) dL_law_1041 ?_
  refine dk_top (y := a1) ha1.symm ?_
  refine lv_aload_n hx hb dL_law_1042 rfl (lv_at hl 3 rfl) ?_
  refine lv_iload_n hx hb dL_law_1043 rfl (lv_at hl 0 rfl) ?_
  refine lv_iconst (v := 2) hx hb dL_law_1044 (by decide +kernel) ?_
  refine lv_iadd hx hb dL_law_1045 ?_
  refine va_sld hx hb hX hbl hbA hS (dk_inv2 (by omega)) dL_law_1046 ?_
  refine dk_top (y := a2) ha2.symm ?_
  refine lw_calli hS (fun i _ => hoM i) hA (va_runV (As := [.int a1, .int a2]) (rest := []) F (c_m_kept l g D oM SM a1 a2 J0 H.size) (cwV 2 hts (lw_V wB_1639 wB_1640 wB_1641 wB_297 wB_1638) rfl rfl rfl (by decide +kernel) ⟨Nat.le_of_ble_eq_true rfl, Nat.le_of_ble_eq_true rfl⟩) (dg_preV sM_0 rfl K ST hM hS (fun i _ => hoM i) hA) rfl rfl hl.1 rfl (lv_room (Nat.le_of_ble_eq_true rfl)) dL_law_1047 ⟨Nat.le_of_ble_eq_true rfl, Nat.le_of_ble_eq_true rfl⟩) hP (lw_apM hO) (fun r2 S2 hw2 H locs hM hP hS => ?_)
  rw [hw2.1] at hM
  obtain ⟨-, w2_0, -⟩ := hw2
  have eq9 := E_kept LW0 w1_0 w2_0
  have LW1 := LW0
  refine lv_pop hx hb dL_law_1050 rfl ?_
  refine lv_goto (tgt := 1126) hx hb dL_law_1051 (dk_dq rfl) ?_
  exact kk SX SM H locs ls hP hM hS ⟨I0, Z1, Z2, Z3, Z4, Z6⟩ ⟨J0, ZB, ZS, ZW, ZD⟩ ⟨t, fX, fM, fun j hj => by exact hBY j hj⟩ ⟨_, _, LW1⟩ hl
set_option maxHeartbeats 8000000 in
set_option maxRecDepth 100000 in
theorem law_case_30 {p : Program} {e : Env} {s : State} {m : MethodId} {below : List Frame} {meth : Method} {c : Code} (l : Launch) {b L : Nat} {xs : Nat → Int32} {g : Nat → ClassId} {D : va_G} {A : Nat → Prop} {oX oM : Nat} (C : law_St p s m meth c b L xs g D A) (ST : dk_ST A s s.heap) (hO : oX + 380 ≤ oM) (hoX : ∀ i, A (oX + i)) (hoM : ∀ i, A (oM + i)) {H : Heap} {locs : List Loc} {ls : Array Slot} {SX SM : dg_S} (hP : va_P D vwCl (dg_w g shX oX rfX SX) H) (hM : va_P D vwCl (dg_w g shM oM rfM SM) H) (hS : va_S A s.heap H locs) (IX : law_X oX SX) (IM : law_M oM SM) (IT : law_T SX SM) (IL : law_L oX SX SM) {x : Int32} (hx0 : 0 ≤ x.toInt) (hxL : x.toInt + 6 ≤ L) (hL : L ≤ 3072) (hl : lv_has ls 4 [(3, .int x), (2, .ref (oM + 0)), (1, .ref (oX + 0)), (0, .ref b)])
    (kk : ∀ (SX SM : dg_S) (H : Heap) (locs : List Loc) (ls : Array Slot), va_P D vwCl (dg_w g shX oX rfX SX) H → va_P D vwCl (dg_w g shM oM rfM SM) H → va_S A s.heap H locs → law_X oX SX → law_M oM SM → law_T SX SM → law_L oX SX SM → lv_has ls 4 [(3, .int x), (2, .ref (oM + 0)), (1, .ref (oX + 0)), (0, .ref b)] → W p l e room_1 s m #[Value.ref b] below meth c H locs 431 78943 (lw_Z below #[Value.ref b] s) (F0 m 1126 ls [])) : W p l e room_1 s m #[Value.ref b] below meth c H locs 431 78943 (lw_Z below #[Value.ref b] s) (F0 m 1054 ls []) := by
  obtain ⟨hx, hb, hr, hml, hown, hts, hX, hbl, hlocks, K, hA, hAi⟩ := C
  have hbA : ¬ A b := fun q => Nat.not_le.mpr hbl (hAi b q)
  have F : CallFix p m c cL_law 4 s #[Value.ref b] lw_tbl RL := ⟨hx, hb, hml, hown, hts⟩
  obtain ⟨I0, Z1, Z2, Z3, Z4, Z6⟩ := IX
  obtain ⟨J0, ZB, ZS, ZW, ZD⟩ := IM
  obtain ⟨t, fX, fM, hBY⟩ := IT
  obtain ⟨gD, gE, LW0⟩ := IL
  have hgD := LW0.2.2.2.1.1.1
  have hgE := LW0.2.2.2.1.1.2.1
  have hgne := LW0.2.2.2.1.1.2.2
  have fgD := LW0.2.2.2.1.2.1
  have fgE := LW0.2.2.2.1.2.2
  have b_t : 0 ≤ (t).toInt ∧ (t).toInt ≤ 1600 := dg_I.intb (lo := 0) (hi := 1600) I0 sX_1 (by decide +kernel) fX
  refine lv_aload_n hx hb dL_law_1054 rfl (lv_at hl 2 rfl) ?_
  refine lw_calli hS (fun i _ => hoX i) hA (va_runV (As := []) (rest := []) F (c_d_image l g D oX SX Z1 Z2 Z3 Z4 Z6 I0 H.size) (cwV 0 hts (lw_V wB_1643 wB_1644 wB_1645 wB_610 wB_1642) rfl rfl rfl (by decide +kernel) ⟨Nat.le_of_ble_eq_true rfl, Nat.le_of_ble_eq_true rfl⟩) (dg_preV sX_0 rfl K ST hP hS (fun i _ => hoX i) hA) rfl rfl hl.1 rfl (lv_room (Nat.le_of_ble_eq_true rfl)) dL_law_1055 ⟨Nat.le_of_ble_eq_true rfl, Nat.le_of_ble_eq_true rfl⟩) hM (lw_apX hO) (fun r1 S1 hw1 H locs hP hM hS => ?_)
  obtain ⟨I1, m1, w1_0, w1_1, -⟩ := hw1
  have Z1_1 : Z1X S1 := (Z1X.keep Z1 m1 (dk_dq rfl) (dk_dq rfl) (dk_dq rfl))
  have Z2_1 : Z2X S1 := (Z2X.keep Z2 m1 (dk_dq rfl) (dk_dq rfl))
  have Z3_1 : Z3X oX S1 := (Z3X.keep Z3 m1 (dg_FG.sm m1 (dk_dq rfl)) (dk_dq rfl))
  have Z4_1 : Z4X S1 := (Z4X.keep Z4 m1 (dg_FG.sm m1 (dk_dq rfl)) (dk_dq rfl) (dk_dq rfl))
  have Z6_1 : Z6X S1 := (Z6X.keep Z6 m1 (dg_FG.sm m1 (dk_dq rfl)))
  have br1 : 0 ≤ (r1).toInt ∧ (r1).toInt ≤ 124 := w1_0
  have fX_1 : S1.1 1 1 = .int t := (m1.1 1 1 _ sX_1 (dk_dq rfl)).trans fX
  refine lv_pop hx hb dL_law_1058 rfl ?_
  refine lv_aload_n hx hb dL_law_1059 rfl (lv_at hl 1 rfl) ?_
  refine lw_calli hS (fun i _ => hoM i) hA (va_runV (As := []) (rest := []) F (c_m_image l g D oM SM ZB J0 H.size) (cwV 0 hts (lw_V wB_1647 wB_1648 wB_1649 wB_297 wB_1646) rfl rfl rfl (by decide +kernel) ⟨Nat.le_of_ble_eq_true rfl, Nat.le_of_ble_eq_true rfl⟩) (dg_preV sM_0 rfl K ST hM hS (fun i _ => hoM i) hA) rfl rfl hl.1 rfl (lv_room (Nat.le_of_ble_eq_true rfl)) dL_law_1060 ⟨Nat.le_of_ble_eq_true rfl, Nat.le_of_ble_eq_true rfl⟩) hP (lw_apM hO) (fun r2 S2 hw2 H locs hM hP hS => ?_)
  obtain ⟨I2, m2, w2_0, w2_1, -⟩ := hw2
  have ZB_2 : ZBM S2 := (ZBM.keep ZB m2 (dk_dq rfl) (dk_dq rfl) (dk_dq rfl) (dk_dq rfl) (dk_dq rfl))
  have ZS_2 : ZSM S2 := (ZSM.keep ZS m2 (dk_dq rfl))
  have ZW_2 : ZWM S2 := (ZWM.keep ZW m2 (dk_dq rfl) (dk_dq rfl) (dk_dq rfl) (dk_dq rfl))
  have ZD_2 : ZDM S2 := (ZDM.keep ZD m2 (dk_dq rfl))
  have br2 : 0 ≤ (r2).toInt ∧ (r2).toInt ≤ 150 := w2_0
  have fM_2 : S2.1 0 1 = .int t := (m2.1 0 1 _ sM_0 (dk_dq rfl)).trans fM
  obtain ⟨eq9, LW1⟩ := W_image LW0 w1_1 w2_1
  refine lv_pop hx hb dL_law_1063 rfl ?_
  refine lv_goto (tgt := 1126) hx hb dL_law_1064 (dk_dq rfl) ?_
  exact kk S1 S2 H locs ls hP hM hS ⟨I1, Z1_1, Z2_1, Z3_1, Z4_1, Z6_1⟩ ⟨I2, ZB_2, ZS_2, ZW_2, ZD_2⟩ ⟨t, fX_1, fM_2, fun j hj => by rw [(m1.2 2 _ sX_2 (dk_dq rfl)).1, (m2.2 1 _ sM_1 (dk_dq rfl)).1]; exact hBY j hj⟩ ⟨_, _, LW1⟩ hl
set_option maxHeartbeats 8000000 in
set_option maxRecDepth 100000 in
theorem law_case_31 {p : Program} {e : Env} {s : State} {m : MethodId} {below : List Frame} {meth : Method} {c : Code} (l : Launch) {b L : Nat} {xs : Nat → Int32} {g : Nat → ClassId} {D : va_G} {A : Nat → Prop} {oX oM : Nat} (C : law_St p s m meth c b L xs g D A) (ST : dk_ST A s s.heap) (hO : oX + 380 ≤ oM) (hoX : ∀ i, A (oX + i)) (hoM : ∀ i, A (oM + i)) {H : Heap} {locs : List Loc} {ls : Array Slot} {SX SM : dg_S} (hP : va_P D vwCl (dg_w g shX oX rfX SX) H) (hM : va_P D vwCl (dg_w g shM oM rfM SM) H) (hS : va_S A s.heap H locs) (IX : law_X oX SX) (IM : law_M oM SM) (IT : law_T SX SM) (IL : law_L oX SX SM) {x : Int32} (hx0 : 0 ≤ x.toInt) (hxL : x.toInt + 6 ≤ L) (hL : L ≤ 3072) (hl : lv_has ls 4 [(3, .int x), (2, .ref (oM + 0)), (1, .ref (oX + 0)), (0, .ref b)])
    (kk : ∀ (SX SM : dg_S) (H : Heap) (locs : List Loc) (ls : Array Slot), va_P D vwCl (dg_w g shX oX rfX SX) H → va_P D vwCl (dg_w g shM oM rfM SM) H → va_S A s.heap H locs → law_X oX SX → law_M oM SM → law_T SX SM → law_L oX SX SM → lv_has ls 4 [(3, .int x), (2, .ref (oM + 0)), (1, .ref (oX + 0)), (0, .ref b)] → W p l e room_1 s m #[Value.ref b] below meth c H locs 431 78943 (lw_Z below #[Value.ref b] s) (F0 m 1126 ls [])) : W p l e room_1 s m #[Value.ref b] below meth c H locs 431 78943 (lw_Z below #[Value.ref b] s) (F0 m 1067 ls []) := by
  obtain ⟨hx, hb, hr, hml, hown, hts, hX, hbl, hlocks, K, hA, hAi⟩ := C
  have hbA : ¬ A b := fun q => Nat.not_le.mpr hbl (hAi b q)
  have F : CallFix p m c cL_law 4 s #[Value.ref b] lw_tbl RL := ⟨hx, hb, hml, hown, hts⟩
  obtain ⟨I0, Z1, Z2, Z3, Z4, Z6⟩ := IX
  obtain ⟨J0, ZB, ZS, ZW, ZD⟩ := IM
  obtain ⟨t, fX, fM, hBY⟩ := IT
  obtain ⟨gD, gE, LW0⟩ := IL
  have hgD := LW0.2.2.2.1.1.1
  have hgE := LW0.2.2.2.1.1.2.1
  have hgne := LW0.2.2.2.1.1.2.2
  have fgD := LW0.2.2.2.1.2.1
  have fgE := LW0.2.2.2.1.2.2
  have b_t : 0 ≤ (t).toInt ∧ (t).toInt ≤ 1600 := dg_I.intb (lo := 0) (hi := 1600) I0 sX_1 (by decide +kernel) fX
  have i1 : (x + 1).toInt = x.toInt + 1 := dk_addT2 rfl (by decide +kernel) (by omega)
  obtain ⟨a1, ha1⟩ : ∃ a, a = xs (x + 1).toNatClampNeg := ⟨_, rfl⟩
  refine lv_aload_n hx hb dL_law_1067 rfl (lv_at hl 2 rfl) ?_
  refine lv_aload_n hx hb dL_law_1068 rfl (lv_at hl 3 rfl) ?_
  refine lv_iload_n hx hb dL_law_1069 rfl (lv_at hl 0 rfl) ?_
  refine lv_iconst (v := 1) hx hb dL_law_1070 (by decide +kernel) ?_
  refine lv_iadd hx hb dL_law_1071 ?_
  refine va_sld hx hb hX hbl hbA hS (dk_inv2 (by omega)) dL_law_1072 ?_
  refine dk_top (y := a1) ha1.symm ?_
  refine lw_calli hS (fun i _ => hoX i) hA (va_runV (As := [.int a1]) (rest := []) F (c_d_octet l g D oX SX a1 Z1 Z2 Z3 Z4 Z6 I0 H.size) (cwV 1 hts (lw_V wB_1651 wB_1652 wB_1653 wB_610 wB_1650) rfl rfl rfl (by decide +kernel) ⟨Nat.le_of_ble_eq_true rfl, Nat.le_of_ble_eq_true rfl⟩) (dg_preV sX_0 rfl K ST hP hS (fun i _ => hoX i) hA) rfl rfl hl.1 rfl (lv_room (Nat.le_of_ble_eq_true rfl)) dL_law_1073 ⟨Nat.le_of_ble_eq_true rfl, Nat.le_of_ble_eq_true rfl⟩) hM (lw_apX hO) (fun r1 S1 hw1 H locs hP hM hS => ?_)
  rw [hw1.1] at hP
  obtain ⟨-, w1_0, -⟩ := hw1
  refine lv_pop hx hb dL_law_1076 rfl ?_
  refine lv_aload_n hx hb dL_law_1077 rfl (lv_at hl 1 rfl) ?_
  refine lv_aload_n hx hb dL_law_1078 rfl (lv_at hl 3 rfl) ?_
  refine lv_iload_n hx hb dL_law_1079 rfl (lv_at hl 0 rfl) ?_
  refine lv_iconst (v := 1) hx hb dL_law_1080 (by decide +kernel) ?_
  refine lv_iadd hx hb dL_law_1081 ?_
  refine va_sld hx hb hX hbl hbA hS (dk_inv2 (by omega)) dL_law_1082 ?_
  refine dk_top (y := a1) ha1.symm ?_
  refine lw_calli hS (fun i _ => hoM i) hA (va_runV (As := [.int a1]) (rest := []) F (c_m_octet l g D oM SM a1 J0 H.size) (cwV 1 hts (lw_V wB_1655 wB_1656 wB_1657 wB_297 wB_1654) rfl rfl rfl (by decide +kernel) ⟨Nat.le_of_ble_eq_true rfl, Nat.le_of_ble_eq_true rfl⟩) (dg_preV sM_0 rfl K ST hM hS (fun i _ => hoM i) hA) rfl rfl hl.1 rfl (lv_room (Nat.le_of_ble_eq_true rfl)) dL_law_1083 ⟨Nat.le_of_ble_eq_true rfl, Nat.le_of_ble_eq_true rfl⟩) hP (lw_apM hO) (fun r2 S2 hw2 H locs hM hP hS => ?_)
  rw [hw2.1] at hM
  obtain ⟨-, w2_0, -⟩ := hw2
  have eq9 := E_octet LW0 w1_0 w2_0
  have LW1 := LW0
  refine lv_pop hx hb dL_law_1086 rfl ?_
  refine lv_goto (tgt := 1126) hx hb dL_law_1087 (dk_dq rfl) ?_
  exact kk SX SM H locs ls hP hM hS ⟨I0, Z1, Z2, Z3, Z4, Z6⟩ ⟨J0, ZB, ZS, ZW, ZD⟩ ⟨t, fX, fM, fun j hj => by exact hBY j hj⟩ ⟨_, _, LW1⟩ hl
set_option maxHeartbeats 8000000 in
set_option maxRecDepth 100000 in
theorem law_case_32 {p : Program} {e : Env} {s : State} {m : MethodId} {below : List Frame} {meth : Method} {c : Code} (l : Launch) {b L : Nat} {xs : Nat → Int32} {g : Nat → ClassId} {D : va_G} {A : Nat → Prop} {oX oM : Nat} (C : law_St p s m meth c b L xs g D A) (ST : dk_ST A s s.heap) (hO : oX + 380 ≤ oM) (hoX : ∀ i, A (oX + i)) (hoM : ∀ i, A (oM + i)) {H : Heap} {locs : List Loc} {ls : Array Slot} {SX SM : dg_S} (hP : va_P D vwCl (dg_w g shX oX rfX SX) H) (hM : va_P D vwCl (dg_w g shM oM rfM SM) H) (hS : va_S A s.heap H locs) (IX : law_X oX SX) (IM : law_M oM SM) (IT : law_T SX SM) (IL : law_L oX SX SM) {x : Int32} (hx0 : 0 ≤ x.toInt) (hxL : x.toInt + 6 ≤ L) (hL : L ≤ 3072) (hl : lv_has ls 4 [(3, .int x), (2, .ref (oM + 0)), (1, .ref (oX + 0)), (0, .ref b)])
    (kk : ∀ (SX SM : dg_S) (H : Heap) (locs : List Loc) (ls : Array Slot), va_P D vwCl (dg_w g shX oX rfX SX) H → va_P D vwCl (dg_w g shM oM rfM SM) H → va_S A s.heap H locs → law_X oX SX → law_M oM SM → law_T SX SM → law_L oX SX SM → lv_has ls 4 [(3, .int x), (2, .ref (oM + 0)), (1, .ref (oX + 0)), (0, .ref b)] → W p l e room_1 s m #[Value.ref b] below meth c H locs 431 78943 (lw_Z below #[Value.ref b] s) (F0 m 1126 ls [])) : W p l e room_1 s m #[Value.ref b] below meth c H locs 431 78943 (lw_Z below #[Value.ref b] s) (F0 m 1090 ls []) := by
  obtain ⟨hx, hb, hr, hml, hown, hts, hX, hbl, hlocks, K, hA, hAi⟩ := C
  have hbA : ¬ A b := fun q => Nat.not_le.mpr hbl (hAi b q)
  have F : CallFix p m c cL_law 4 s #[Value.ref b] lw_tbl RL := ⟨hx, hb, hml, hown, hts⟩
  obtain ⟨I0, Z1, Z2, Z3, Z4, Z6⟩ := IX
  obtain ⟨J0, ZB, ZS, ZW, ZD⟩ := IM
  obtain ⟨t, fX, fM, hBY⟩ := IT
  obtain ⟨gD, gE, LW0⟩ := IL
  have hgD := LW0.2.2.2.1.1.1
  have hgE := LW0.2.2.2.1.1.2.1
  have hgne := LW0.2.2.2.1.1.2.2
  have fgD := LW0.2.2.2.1.2.1
  have fgE := LW0.2.2.2.1.2.2
  have b_t : 0 ≤ (t).toInt ∧ (t).toInt ≤ 1600 := dg_I.intb (lo := 0) (hi := 1600) I0 sX_1 (by decide +kernel) fX
  refine lv_aload_n hx hb dL_law_1090 rfl (lv_at hl 2 rfl) ?_
  refine lw_calli hS (fun i _ => hoX i) hA (va_runV (As := []) (rest := []) F (c_d_on l g D oX SX Z1 Z2 Z3 Z4 Z6 I0 H.size) (cwV 0 hts (lw_V wB_1659 wB_1660 wB_1661 wB_610 wB_1658) rfl rfl rfl (by decide +kernel) ⟨Nat.le_of_ble_eq_true rfl, Nat.le_of_ble_eq_true rfl⟩) (dg_preV sX_0 rfl K ST hP hS (fun i _ => hoX i) hA) rfl rfl hl.1 rfl (lv_room (Nat.le_of_ble_eq_true rfl)) dL_law_1091 ⟨Nat.le_of_ble_eq_true rfl, Nat.le_of_ble_eq_true rfl⟩) hM (lw_apX hO) (fun r1 S1 hw1 H locs hP hM hS => ?_)
  obtain ⟨I1, m1, w1_0, w1_1, w1_2, w1_3, w1_4, w1_5, w1_6, -⟩ := hw1
  have Z1_1 : Z1X S1 := (Z1X.keep Z1 m1 (dk_dq rfl) (dk_dq rfl) (dk_dq rfl))
  have Z2_1 : Z2X S1 := (Z2X.keep Z2 m1 (dk_dq rfl) (dk_dq rfl))
  have Z3_1 : Z3X oX S1 := w1_2
  have Z4_1 : Z4X S1 := w1_3
  have Z6_1 : Z6X S1 := w1_4
  have br1 : 0 ≤ (r1).toInt ∧ (r1).toInt ≤ 1 := w1_0
  obtain ⟨yX, fyX, pyX⟩ := w1_1
  have pyX : (yX).toInt = 0 := pyX
  refine lv_pop hx hb dL_law_1094 rfl ?_
  refine lv_aload_n hx hb dL_law_1095 rfl (lv_at hl 1 rfl) ?_
  refine lw_calli hS (fun i _ => hoM i) hA (va_runV (As := []) (rest := []) F (c_m_on l g D oM SM ZB ZS J0 H.size) (cwV 0 hts (lw_V wB_1663 wB_1664 wB_1665 wB_297 wB_1662) rfl rfl rfl (by decide +kernel) ⟨Nat.le_of_ble_eq_true rfl, Nat.le_of_ble_eq_true rfl⟩) (dg_preV sM_0 rfl K ST hM hS (fun i _ => hoM i) hA) rfl rfl hl.1 rfl (lv_room (Nat.le_of_ble_eq_true rfl)) dL_law_1096 ⟨Nat.le_of_ble_eq_true rfl, Nat.le_of_ble_eq_true rfl⟩) hP (lw_apM hO) (fun r2 S2 hw2 H locs hM hP hS => ?_)
  obtain ⟨I2, m2, w2_0, w2_1, w2_2, w2_3, -⟩ := hw2
  have ZB_2 : ZBM S2 := (ZBM.keep ZB m2 (dk_dq rfl) (dk_dq rfl) (dk_dq rfl) (dk_dq rfl) (dk_dq rfl))
  have ZS_2 : ZSM S2 := w2_2
  have ZW_2 : ZWM S2 := (ZWM.keep ZW m2 (dk_dq rfl) (dk_dq rfl) (dk_dq rfl) (dk_dq rfl))
  have ZD_2 : ZDM S2 := (ZDM.keep ZD m2 (dk_dq rfl))
  have br2 : 0 ≤ (r2).toInt ∧ (r2).toInt ≤ 1 := w2_0
  obtain ⟨yM, fyM, pyM⟩ := w2_1
  have pyM : (yM).toInt = 0 := pyM
  obtain ⟨eq9, LW1⟩ := W_on LW0 w1_6 w2_3
  refine lv_pop hx hb dL_law_1099 rfl ?_
  refine lv_goto (tgt := 1126) hx hb dL_law_1100 (dk_dq rfl) ?_
  have hyy : yM = yX := Int32.toInt_inj.mp (by omega)
  have hct := dk_clN t
  have hcy := dk_clN yX
  exact kk S1 S2 H locs ls hP hM hS ⟨I1, Z1_1, Z2_1, Z3_1, Z4_1, Z6_1⟩ ⟨I2, ZB_2, ZS_2, ZW_2, ZD_2⟩ ⟨yX, fyX, (fyM).trans (by rw [hyy]), fun j hj => by rw [(m1.2 2 _ sX_2 (dk_dq rfl)).1, (m2.2 1 _ sM_1 (dk_dq rfl)).1]; exact hBY j (by omega)⟩ ⟨_, _, LW1⟩ hl
set_option maxHeartbeats 8000000 in
set_option maxRecDepth 100000 in
theorem law_case_33 {p : Program} {e : Env} {s : State} {m : MethodId} {below : List Frame} {meth : Method} {c : Code} (l : Launch) {b L : Nat} {xs : Nat → Int32} {g : Nat → ClassId} {D : va_G} {A : Nat → Prop} {oX oM : Nat} (C : law_St p s m meth c b L xs g D A) (ST : dk_ST A s s.heap) (hO : oX + 380 ≤ oM) (hoX : ∀ i, A (oX + i)) (hoM : ∀ i, A (oM + i)) {H : Heap} {locs : List Loc} {ls : Array Slot} {SX SM : dg_S} (hP : va_P D vwCl (dg_w g shX oX rfX SX) H) (hM : va_P D vwCl (dg_w g shM oM rfM SM) H) (hS : va_S A s.heap H locs) (IX : law_X oX SX) (IM : law_M oM SM) (IT : law_T SX SM) (IL : law_L oX SX SM) {x : Int32} (hx0 : 0 ≤ x.toInt) (hxL : x.toInt + 6 ≤ L) (hL : L ≤ 3072) (hl : lv_has ls 4 [(3, .int x), (2, .ref (oM + 0)), (1, .ref (oX + 0)), (0, .ref b)])
    (kk : ∀ (SX SM : dg_S) (H : Heap) (locs : List Loc) (ls : Array Slot), va_P D vwCl (dg_w g shX oX rfX SX) H → va_P D vwCl (dg_w g shM oM rfM SM) H → va_S A s.heap H locs → law_X oX SX → law_M oM SM → law_T SX SM → law_L oX SX SM → lv_has ls 4 [(3, .int x), (2, .ref (oM + 0)), (1, .ref (oX + 0)), (0, .ref b)] → W p l e room_1 s m #[Value.ref b] below meth c H locs 431 78943 (lw_Z below #[Value.ref b] s) (F0 m 1126 ls [])) : W p l e room_1 s m #[Value.ref b] below meth c H locs 431 78943 (lw_Z below #[Value.ref b] s) (F0 m 1103 ls []) := by
  obtain ⟨hx, hb, hr, hml, hown, hts, hX, hbl, hlocks, K, hA, hAi⟩ := C
  have hbA : ¬ A b := fun q => Nat.not_le.mpr hbl (hAi b q)
  have F : CallFix p m c cL_law 4 s #[Value.ref b] lw_tbl RL := ⟨hx, hb, hml, hown, hts⟩
  obtain ⟨I0, Z1, Z2, Z3, Z4, Z6⟩ := IX
  obtain ⟨J0, ZB, ZS, ZW, ZD⟩ := IM
  obtain ⟨t, fX, fM, hBY⟩ := IT
  obtain ⟨gD, gE, LW0⟩ := IL
  have hgD := LW0.2.2.2.1.1.1
  have hgE := LW0.2.2.2.1.1.2.1
  have hgne := LW0.2.2.2.1.1.2.2
  have fgD := LW0.2.2.2.1.2.1
  have fgE := LW0.2.2.2.1.2.2
  have b_t : 0 ≤ (t).toInt ∧ (t).toInt ≤ 1600 := dg_I.intb (lo := 0) (hi := 1600) I0 sX_1 (by decide +kernel) fX
  have i1 : (x + 1).toInt = x.toInt + 1 := dk_addT2 rfl (by decide +kernel) (by omega)
  obtain ⟨a1, ha1⟩ : ∃ a, a = xs (x + 1).toNatClampNeg := ⟨_, rfl⟩
  refine lv_aload_n hx hb dL_law_1103 rfl (lv_at hl 2 rfl) ?_
  refine lv_aload_n hx hb dL_law_1104 rfl (lv_at hl 3 rfl) ?_
  refine lv_iload_n hx hb dL_law_1105 rfl (lv_at hl 0 rfl) ?_
  refine lv_iconst (v := 1) hx hb dL_law_1106 (by decide +kernel) ?_
  refine lv_iadd hx hb dL_law_1107 ?_
  refine va_sld hx hb hX hbl hbA hS (dk_inv2 (by omega)) dL_law_1108 ?_
  refine dk_top (y := a1) ha1.symm ?_
  refine lw_calli hS (fun i _ => hoX i) hA (va_runV (As := [.int a1]) (rest := []) F (c_d_status l g D oX SX a1 Z1 Z2 Z3 Z4 Z6 I0 H.size) (cwV 1 hts (lw_V wB_1667 wB_1668 wB_1669 wB_610 wB_1666) rfl rfl rfl (by decide +kernel) ⟨Nat.le_of_ble_eq_true rfl, Nat.le_of_ble_eq_true rfl⟩) (dg_preV sX_0 rfl K ST hP hS (fun i _ => hoX i) hA) rfl rfl hl.1 rfl (lv_room (Nat.le_of_ble_eq_true rfl)) dL_law_1109 ⟨Nat.le_of_ble_eq_true rfl, Nat.le_of_ble_eq_true rfl⟩) hM (lw_apX hO) (fun r1 S1 hw1 H locs hP hM hS => ?_)
  rw [hw1.1] at hP
  obtain ⟨-, w1_0, -⟩ := hw1
  refine lv_pop hx hb dL_law_1112 rfl ?_
  refine lv_aload_n hx hb dL_law_1113 rfl (lv_at hl 1 rfl) ?_
  refine lv_aload_n hx hb dL_law_1114 rfl (lv_at hl 3 rfl) ?_
  refine lv_iload_n hx hb dL_law_1115 rfl (lv_at hl 0 rfl) ?_
  refine lv_iconst (v := 1) hx hb dL_law_1116 (by decide +kernel) ?_
  refine lv_iadd hx hb dL_law_1117 ?_
  refine va_sld hx hb hX hbl hbA hS (dk_inv2 (by omega)) dL_law_1118 ?_
  refine dk_top (y := a1) ha1.symm ?_
  refine lw_calli hS (fun i _ => hoM i) hA (va_runV (As := [.int a1]) (rest := []) F (c_m_status l g D oM SM a1 J0 H.size) (cwV 1 hts (lw_V wB_1671 wB_1672 wB_1673 wB_297 wB_1670) rfl rfl rfl (by decide +kernel) ⟨Nat.le_of_ble_eq_true rfl, Nat.le_of_ble_eq_true rfl⟩) (dg_preV sM_0 rfl K ST hM hS (fun i _ => hoM i) hA) rfl rfl hl.1 rfl (lv_room (Nat.le_of_ble_eq_true rfl)) dL_law_1119 ⟨Nat.le_of_ble_eq_true rfl, Nat.le_of_ble_eq_true rfl⟩) hP (lw_apM hO) (fun r2 S2 hw2 H locs hM hP hS => ?_)
  rw [hw2.1] at hM
  obtain ⟨-, w2_0, -⟩ := hw2
  have eq9 := E_status LW0 w1_0 w2_0
  have LW1 := LW0
  refine lv_pop hx hb dL_law_1122 rfl ?_
  refine lv_goto (tgt := 1126) hx hb dL_law_1123 (dk_dq rfl) ?_
  exact kk SX SM H locs ls hP hM hS ⟨I0, Z1, Z2, Z3, Z4, Z6⟩ ⟨J0, ZB, ZS, ZW, ZD⟩ ⟨t, fX, fM, fun j hj => by exact hBY j hj⟩ ⟨_, _, LW1⟩ hl
end
section
/-! 62.loop.lean.txt -/
theorem dL_law_18 : decode cL_law 18 = .ok (.iload_n 3, 1) := dk_o29 (by decide +kernel)
theorem dL_law_19 : decode cL_law 19 = .ok (.aload_n 0, 1) := dk_o42 (by decide +kernel)
theorem dL_law_20 : decode cL_law 20 = .ok (.arraylength, 1) := dk_o190 (by decide +kernel)
theorem dL_law_21 : decode cL_law 21 = .ok (.bipush 6, 2) := dk_o16 (by decide +kernel)
theorem dL_law_23 : decode cL_law 23 = .ok (.isub, 1) := dk_o100 (by decide +kernel)
theorem dL_law_24 : decode cL_law 24 = .ok (.if_icmp .gt 1108, 3) := dk_o163 (by decide +kernel)
theorem dL_law_27 : decode cL_law 27 = .ok (.aload_n 0, 1) := dk_o42 (by decide +kernel)
theorem dL_law_28 : decode cL_law 28 = .ok (.iload_n 3, 1) := dk_o29 (by decide +kernel)
theorem dL_law_29 : decode cL_law 29 = .ok (.iaload, 1) := dk_o46 (by decide +kernel)
theorem dL_law_30 : decode cL_law 30 = .ok (.bipush 63, 2) := dk_o16 (by decide +kernel)
theorem dL_law_32 : decode cL_law 32 = .ok (.iand, 1) := dk_o126 (by decide +kernel)
theorem dL_law_33 : decode cL_law 33 = .ok (.tableswitch 1093 0 33 #[151, 214, 237, 250, 273, 296, 339, 382, 405, 438, 471, 494, 537, 570, 593, 626, 659, 682, 715, 728, 741, 764, 787, 810, 853, 906, 929, 952, 965, 988, 1021, 1034, 1057, 1070], 151) := by decide +kernel
theorem dL_law_1126 : decode cL_law 1126 = .ok (.iinc 3 6, 3) := dk_o132 (by decide +kernel)
theorem dL_law_1129 : decode cL_law 1129 = .ok (.goto (-1111), 3) := dk_o167 (by decide +kernel)
theorem dL_law_1132 : decode cL_law 1132 = .ok (.iconst 1, 1) := dk_o4 (by decide +kernel)
theorem dL_law_1133 : decode cL_law 1133 = .ok (.ireturn, 1) := dk_o172 (by decide +kernel)
set_option maxHeartbeats 8000000 in
set_option maxRecDepth 100000 in
theorem law_loop {p : Program} {e : Env} {s : State} {m : MethodId} {below : List Frame} {meth : Method} {c : Code} (l : Launch) {b L : Nat} {xs : Nat → Int32} {g : Nat → ClassId} {D : va_G} {A : Nat → Prop} {oX oM : Nat} (C : law_St p s m meth c b L xs g D A) (ST : dk_ST A s s.heap) (hO : oX + 380 ≤ oM) (hoX : ∀ i, A (oX + i)) (hoM : ∀ i, A (oM + i)) (hL : L ≤ 3072) : ∀ (n : Nat) (x : Int32), 0 ≤ x.toInt → x.toInt ≤ 3078 → (3078 - x.toInt).toNat < n → ∀ (SX SM : dg_S) (H : Heap) (locs : List Loc) (ls : Array Slot), va_P D vwCl (dg_w g shX oX rfX SX) H → va_P D vwCl (dg_w g shM oM rfM SM) H → va_S A s.heap H locs → law_X oX SX → law_M oM SM → law_T SX SM → law_L oX SX SM → lv_has ls 4 [(3, .int x), (2, .ref (oM + 0)), (1, .ref (oX + 0)), (0, .ref b)] → W p l e room_1 s m #[Value.ref b] below meth c H locs 431 78943 (lw_Z below #[Value.ref b] s) (F0 m 18 ls []) := by
  intro n
  induction n with
  | zero => intro x _ _ h; exact absurd h (Nat.not_lt_zero _)
  | succ n ih =>
    as_aux_lemma =>
      intro x hx0 hx1 hmu SX SM H locs ls hP hM hS IX IM IT IL hl
      obtain ⟨hx, hb, hr, hml, hown, hts, hX, hbl, hlocks, K, hA, hAi⟩ := id C
      have hbA : ¬ A b := fun q => Nat.not_le.mpr hbl (hAi b q)
      refine lv_iload_n hx hb dL_law_18 rfl (lv_at hl 0 rfl) ?_
      refine lv_aload_n hx hb dL_law_19 rfl (lv_at hl 3 rfl) ?_
      refine va_slen hx hb hX hbl hbA hS dL_law_20 ?_
      refine lv_bipush (v := 6) hx hb dL_law_21 (by decide +kernel) ?_
      refine lv_isub hx hb dL_law_23 ?_
      obtain ⟨n6, e6⟩ : ∃ n6, n6 = Int32.ofNat L - 6 := ⟨_, rfl⟩
      refine dk_top (y := n6) e6.symm ?_
      have j6 : n6.toInt = L - 6 := by rw [e6]; exact lw_len hL
      refine lv_icmp_gt (tgt := 1132) hx hb dL_law_24 (dk_dq rfl) (fun c9 => ?_) (fun c9 => ?_)
      · refine lv_iconst (v := 1) hx hb dL_law_1132 (by decide +kernel) ?_
        refine va_forget (fun q hq => hAi _ (hS.2.2 q hq)) ?_
        refine W.widen (k := 600000) (n := 7302249) (Nat.le_of_ble_eq_true rfl) (Nat.le_of_ble_eq_true rfl) ?_
        exact lw_ret hx hb hr hlocks dL_law_1133
      have jc := dk_ngtc (k := (n6).toInt) rfl c9
      have hxL : x.toInt + 6 ≤ L := by omega
      refine lv_aload_n hx hb dL_law_27 rfl (lv_at hl 3 rfl) ?_
      refine lv_iload_n hx hb dL_law_28 rfl (lv_at hl 0 rfl) ?_
      refine va_sld hx hb hX hbl hbA hS (dk_inv2 (by omega)) dL_law_29 ?_
      refine lv_bipush (v := 63) hx hb dL_law_30 (by decide +kernel) ?_
      refine lv_iand hx hb dL_law_32 ?_
      obtain ⟨v, ev⟩ : ∃ v, v = xs x.toNatClampNeg &&& 63 := ⟨_, rfl⟩
      refine dk_top (y := v) ev.symm ?_
      have jv : 0 ≤ v.toInt ∧ v.toInt ≤ 63 := by rw [ev]; exact lw_and _
      have kk : ∀ (SX SM : dg_S) (H : Heap) (locs : List Loc) (ls : Array Slot), va_P D vwCl (dg_w g shX oX rfX SX) H → va_P D vwCl (dg_w g shM oM rfM SM) H → va_S A s.heap H locs → law_X oX SX → law_M oM SM → law_T SX SM → law_L oX SX SM → lv_has ls 4 [(3, .int x), (2, .ref (oM + 0)), (1, .ref (oX + 0)), (0, .ref b)] → W p l e room_1 s m #[Value.ref b] below meth c H locs 431 78943 (lw_Z below #[Value.ref b] s) (F0 m 1126 ls []) := by
        intro SX SM H locs ls hP hM hS IX IM IT IL hl
        obtain ⟨y, ey⟩ : ∃ y, y = x + 6 := ⟨_, rfl⟩
        have jy : y.toInt = x.toInt + 6 := by rw [ey]; exact dk_addT2 rfl (by decide +kernel) (by omega)
        refine lv_iinc (v := y) (lv' := [(3, .int y), (2, .ref (oM + 0)), (1, .ref (oX + 0)), (0, .ref b)]) hx hb dL_law_1126 hl (k := 0) rfl (by rw [ey]; rfl) (dk_dq rfl) rfl (fun ls hl => ?_)
        refine lv_goto (tgt := 18) hx hb dL_law_1129 (dk_dq rfl) ?_
        exact ih y (by omega) (by omega) (by omega) SX SM H locs ls hP hM hS IX IM IT IL hl
      by_cases hd9 : 33 < v.toInt
      · refine lv_tableOut (tgt := 1126) hx hb dL_law_33 (Or.inr hd9) (dk_dq rfl) ?_
        exact kk SX SM H locs ls hP hM hS IX IM IT IL hl
      have hc : v.toInt = 0 ∨ v.toInt = 1 ∨ v.toInt = 2 ∨ v.toInt = 3 ∨ v.toInt = 4 ∨ v.toInt = 5 ∨ v.toInt = 6 ∨ v.toInt = 7 ∨ v.toInt = 8 ∨ v.toInt = 9 ∨ v.toInt = 10 ∨ v.toInt = 11 ∨ v.toInt = 12 ∨ v.toInt = 13 ∨ v.toInt = 14 ∨ v.toInt = 15 ∨ v.toInt = 16 ∨ v.toInt = 17 ∨ v.toInt = 18 ∨ v.toInt = 19 ∨ v.toInt = 20 ∨ v.toInt = 21 ∨ v.toInt = 22 ∨ v.toInt = 23 ∨ v.toInt = 24 ∨ v.toInt = 25 ∨ v.toInt = 26 ∨ v.toInt = 27 ∨ v.toInt = 28 ∨ v.toInt = 29 ∨ v.toInt = 30 ∨ v.toInt = 31 ∨ v.toInt = 32 ∨ v.toInt = 33 := by omega
      rcases hc with h9 | h9 | h9 | h9 | h9 | h9 | h9 | h9 | h9 | h9 | h9 | h9 | h9 | h9 | h9 | h9 | h9 | h9 | h9 | h9 | h9 | h9 | h9 | h9 | h9 | h9 | h9 | h9 | h9 | h9 | h9 | h9 | h9 | h9
      · refine lv_tableIn (off := 151) (tgt := 184) hx hb dL_law_33 (by rw [h9]; decide) (by rw [h9]; decide) (by rw [h9]; decide +kernel) (dk_dq rfl) ?_
        exact law_case_0 l C ST hO hoX hoM hP hM hS IX IM IT IL hx0 hxL hL hl kk
      · refine lv_tableIn (off := 214) (tgt := 247) hx hb dL_law_33 (by rw [h9]; decide) (by rw [h9]; decide) (by rw [h9]; decide +kernel) (dk_dq rfl) ?_
        exact law_case_1 l C ST hO hoX hoM hP hM hS IX IM IT IL hx0 hxL hL hl kk
      · refine lv_tableIn (off := 237) (tgt := 270) hx hb dL_law_33 (by rw [h9]; decide) (by rw [h9]; decide) (by rw [h9]; decide +kernel) (dk_dq rfl) ?_
        exact law_case_2 l C ST hO hoX hoM hP hM hS IX IM IT IL hx0 hxL hL hl kk
      · refine lv_tableIn (off := 250) (tgt := 283) hx hb dL_law_33 (by rw [h9]; decide) (by rw [h9]; decide) (by rw [h9]; decide +kernel) (dk_dq rfl) ?_
        exact law_case_3 l C ST hO hoX hoM hP hM hS IX IM IT IL hx0 hxL hL hl kk
      · refine lv_tableIn (off := 273) (tgt := 306) hx hb dL_law_33 (by rw [h9]; decide) (by rw [h9]; decide) (by rw [h9]; decide +kernel) (dk_dq rfl) ?_
        exact law_case_4 l C ST hO hoX hoM hP hM hS IX IM IT IL hx0 hxL hL hl kk
      · refine lv_tableIn (off := 296) (tgt := 329) hx hb dL_law_33 (by rw [h9]; decide) (by rw [h9]; decide) (by rw [h9]; decide +kernel) (dk_dq rfl) ?_
        exact law_case_5 l C ST hO hoX hoM hP hM hS IX IM IT IL hx0 hxL hL hl kk
      · refine lv_tableIn (off := 339) (tgt := 372) hx hb dL_law_33 (by rw [h9]; decide) (by rw [h9]; decide) (by rw [h9]; decide +kernel) (dk_dq rfl) ?_
        exact law_case_6 l C ST hO hoX hoM hP hM hS IX IM IT IL hx0 hxL hL hl kk
      · refine lv_tableIn (off := 382) (tgt := 415) hx hb dL_law_33 (by rw [h9]; decide) (by rw [h9]; decide) (by rw [h9]; decide +kernel) (dk_dq rfl) ?_
        exact law_case_7 l C ST hO hoX hoM hP hM hS IX IM IT IL hx0 hxL hL hl kk
      · refine lv_tableIn (off := 405) (tgt := 438) hx hb dL_law_33 (by rw [h9]; decide) (by rw [h9]; decide) (by rw [h9]; decide +kernel) (dk_dq rfl) ?_
        exact law_case_8 l C ST hO hoX hoM hP hM hS IX IM IT IL hx0 hxL hL hl kk
      · refine lv_tableIn (off := 438) (tgt := 471) hx hb dL_law_33 (by rw [h9]; decide) (by rw [h9]; decide) (by rw [h9]; decide +kernel) (dk_dq rfl) ?_
        exact law_case_9 l C ST hO hoX hoM hP hM hS IX IM IT IL hx0 hxL hL hl kk
      · refine lv_tableIn (off := 471) (tgt := 504) hx hb dL_law_33 (by rw [h9]; decide) (by rw [h9]; decide) (by rw [h9]; decide +kernel) (dk_dq rfl) ?_
        exact law_case_10 l C ST hO hoX hoM hP hM hS IX IM IT IL hx0 hxL hL hl kk
      · refine lv_tableIn (off := 494) (tgt := 527) hx hb dL_law_33 (by rw [h9]; decide) (by rw [h9]; decide) (by rw [h9]; decide +kernel) (dk_dq rfl) ?_
        exact law_case_11 l C ST hO hoX hoM hP hM hS IX IM IT IL hx0 hxL hL hl kk
      · refine lv_tableIn (off := 537) (tgt := 570) hx hb dL_law_33 (by rw [h9]; decide) (by rw [h9]; decide) (by rw [h9]; decide +kernel) (dk_dq rfl) ?_
        exact law_case_12 l C ST hO hoX hoM hP hM hS IX IM IT IL hx0 hxL hL hl kk
      · refine lv_tableIn (off := 570) (tgt := 603) hx hb dL_law_33 (by rw [h9]; decide) (by rw [h9]; decide) (by rw [h9]; decide +kernel) (dk_dq rfl) ?_
        exact law_case_13 l C ST hO hoX hoM hP hM hS IX IM IT IL hx0 hxL hL hl kk
      · refine lv_tableIn (off := 593) (tgt := 626) hx hb dL_law_33 (by rw [h9]; decide) (by rw [h9]; decide) (by rw [h9]; decide +kernel) (dk_dq rfl) ?_
        exact law_case_14 l C ST hO hoX hoM hP hM hS IX IM IT IL hx0 hxL hL hl kk
      · refine lv_tableIn (off := 626) (tgt := 659) hx hb dL_law_33 (by rw [h9]; decide) (by rw [h9]; decide) (by rw [h9]; decide +kernel) (dk_dq rfl) ?_
        exact law_case_15 l C ST hO hoX hoM hP hM hS IX IM IT IL hx0 hxL hL hl kk
      · refine lv_tableIn (off := 659) (tgt := 692) hx hb dL_law_33 (by rw [h9]; decide) (by rw [h9]; decide) (by rw [h9]; decide +kernel) (dk_dq rfl) ?_
        exact law_case_16 l C ST hO hoX hoM hP hM hS IX IM IT IL hx0 hxL hL hl kk
      · refine lv_tableIn (off := 682) (tgt := 715) hx hb dL_law_33 (by rw [h9]; decide) (by rw [h9]; decide) (by rw [h9]; decide +kernel) (dk_dq rfl) ?_
        exact law_case_17 l C ST hO hoX hoM hP hM hS IX IM IT IL hx0 hxL hL hl kk
      · refine lv_tableIn (off := 715) (tgt := 748) hx hb dL_law_33 (by rw [h9]; decide) (by rw [h9]; decide) (by rw [h9]; decide +kernel) (dk_dq rfl) ?_
        exact law_case_18 l C ST hO hoX hoM hP hM hS IX IM IT IL hx0 hxL hL hl kk
      · refine lv_tableIn (off := 728) (tgt := 761) hx hb dL_law_33 (by rw [h9]; decide) (by rw [h9]; decide) (by rw [h9]; decide +kernel) (dk_dq rfl) ?_
        exact law_case_19 l C ST hO hoX hoM hP hM hS IX IM IT IL hx0 hxL hL hl kk
      · refine lv_tableIn (off := 741) (tgt := 774) hx hb dL_law_33 (by rw [h9]; decide) (by rw [h9]; decide) (by rw [h9]; decide +kernel) (dk_dq rfl) ?_
        exact law_case_20 l C ST hO hoX hoM hP hM hS IX IM IT IL hx0 hxL hL hl kk
      · refine lv_tableIn (off := 764) (tgt := 797) hx hb dL_law_33 (by rw [h9]; decide) (by rw [h9]; decide) (by rw [h9]; decide +kernel) (dk_dq rfl) ?_
        exact law_case_21 l C ST hO hoX hoM hP hM hS IX IM IT IL hx0 hxL hL hl kk
      · refine lv_tableIn (off := 787) (tgt := 820) hx hb dL_law_33 (by rw [h9]; decide) (by rw [h9]; decide) (by rw [h9]; decide +kernel) (dk_dq rfl) ?_
        exact law_case_22 l C ST hO hoX hoM hP hM hS IX IM IT IL hx0 hxL hL hl kk
      · refine lv_tableIn (off := 810) (tgt := 843) hx hb dL_law_33 (by rw [h9]; decide) (by rw [h9]; decide) (by rw [h9]; decide +kernel) (dk_dq rfl) ?_
        exact law_case_23 l C ST hO hoX hoM hP hM hS IX IM IT IL hx0 hxL hL hl kk
      · refine lv_tableIn (off := 853) (tgt := 886) hx hb dL_law_33 (by rw [h9]; decide) (by rw [h9]; decide) (by rw [h9]; decide +kernel) (dk_dq rfl) ?_
        exact law_case_24 l C ST hO hoX hoM hP hM hS IX IM IT IL hx0 hxL hL hl kk
      · refine lv_tableIn (off := 906) (tgt := 939) hx hb dL_law_33 (by rw [h9]; decide) (by rw [h9]; decide) (by rw [h9]; decide +kernel) (dk_dq rfl) ?_
        exact law_case_25 l C ST hO hoX hoM hP hM hS IX IM IT IL hx0 hxL hL hl kk
      · refine lv_tableIn (off := 929) (tgt := 962) hx hb dL_law_33 (by rw [h9]; decide) (by rw [h9]; decide) (by rw [h9]; decide +kernel) (dk_dq rfl) ?_
        exact law_case_26 l C ST hO hoX hoM hP hM hS IX IM IT IL hx0 hxL hL hl kk
      · refine lv_tableIn (off := 952) (tgt := 985) hx hb dL_law_33 (by rw [h9]; decide) (by rw [h9]; decide) (by rw [h9]; decide +kernel) (dk_dq rfl) ?_
        exact law_case_27 l C ST hO hoX hoM hP hM hS IX IM IT IL hx0 hxL hL hl kk
      · refine lv_tableIn (off := 965) (tgt := 998) hx hb dL_law_33 (by rw [h9]; decide) (by rw [h9]; decide) (by rw [h9]; decide +kernel) (dk_dq rfl) ?_
        exact law_case_28 l C ST hO hoX hoM hP hM hS IX IM IT IL hx0 hxL hL hl kk
      · refine lv_tableIn (off := 988) (tgt := 1021) hx hb dL_law_33 (by rw [h9]; decide) (by rw [h9]; decide) (by rw [h9]; decide +kernel) (dk_dq rfl) ?_
        exact law_case_29 l C ST hO hoX hoM hP hM hS IX IM IT IL hx0 hxL hL hl kk
      · refine lv_tableIn (off := 1021) (tgt := 1054) hx hb dL_law_33 (by rw [h9]; decide) (by rw [h9]; decide) (by rw [h9]; decide +kernel) (dk_dq rfl) ?_
        exact law_case_30 l C ST hO hoX hoM hP hM hS IX IM IT IL hx0 hxL hL hl kk
      · refine lv_tableIn (off := 1034) (tgt := 1067) hx hb dL_law_33 (by rw [h9]; decide) (by rw [h9]; decide) (by rw [h9]; decide +kernel) (dk_dq rfl) ?_
        exact law_case_31 l C ST hO hoX hoM hP hM hS IX IM IT IL hx0 hxL hL hl kk
      · refine lv_tableIn (off := 1057) (tgt := 1090) hx hb dL_law_33 (by rw [h9]; decide) (by rw [h9]; decide) (by rw [h9]; decide +kernel) (dk_dq rfl) ?_
        exact law_case_32 l C ST hO hoX hoM hP hM hS IX IM IT IL hx0 hxL hL hl kk
      · refine lv_tableIn (off := 1070) (tgt := 1103) hx hb dL_law_33 (by rw [h9]; decide) (by rw [h9]; decide) (by rw [h9]; decide +kernel) (dk_dq rfl) ?_
        exact law_case_33 l C ST hO hoX hoM hP hM hS IX IM IT IL hx0 hxL hL hl kk
  
end
section
/-! 63.start.lean.txt -/
theorem dL_law_0 : decode cL_law 0 = .ok (.new 7, 3) := dk_o187 (by decide +kernel)
theorem dL_law_3 : decode cL_law 3 = .ok (.dup, 1) := dk_o89 (by decide +kernel)
theorem dL_law_4 : decode cL_law 4 = .ok (.invokespecial 9, 3) := dk_o183 (by decide +kernel)
theorem dL_law_7 : decode cL_law 7 = .ok (.astore_n 1, 1) := dk_o76 (by decide +kernel)
theorem dL_law_8 : decode cL_law 8 = .ok (.new 10, 3) := dk_o187 (by decide +kernel)
theorem dL_law_11 : decode cL_law 11 = .ok (.dup, 1) := dk_o89 (by decide +kernel)
theorem dL_law_12 : decode cL_law 12 = .ok (.invokespecial 12, 3) := dk_o183 (by decide +kernel)
theorem dL_law_15 : decode cL_law 15 = .ok (.astore_n 2, 1) := dk_o77 (by decide +kernel)
theorem dL_law_16 : decode cL_law 16 = .ok (.iconst 0, 1) := dk_o3 (by decide +kernel)
theorem dL_law_17 : decode cL_law 17 = .ok (.istore_n 3, 1) := dk_o62 (by decide +kernel)
theorem wB_1674 : Cond.code yX11_init cX11_init 1 none ∈ dgB := List.mem_filter.mpr ⟨tbl_1 _ (List.mem_of_getElem? (i := 26) rfl), rfl⟩
theorem wB_1675 : Cond.code yX12_init cX12_init 2 none ∈ dgB := List.mem_filter.mpr ⟨tbl_6 _ (List.mem_of_getElem? (i := 160) rfl), rfl⟩
theorem wB_1676 : Cond.classLink RL 7 RX11 ∈ dgB := List.mem_filter.mpr ⟨tbl_1 _ (List.mem_of_getElem? (i := 22) (by decide +kernel)), by decide +kernel⟩
theorem wB_1677 : Cond.methodLink RL 9 yX11_init ∈ dgB := List.mem_filter.mpr ⟨tbl_1 _ (List.mem_of_getElem? (i := 24) (by decide +kernel)), by decide +kernel⟩
theorem wB_1678 : Cond.instanceMethod yX11_init ∈ dgB := List.mem_filter.mpr ⟨tbl_1 _ (List.mem_of_getElem? (i := 25) (by decide +kernel)), by decide +kernel⟩
theorem wB_1679 : Cond.classLink RL 10 RX12 ∈ dgB := List.mem_filter.mpr ⟨tbl_6 _ (List.mem_of_getElem? (i := 156) (by decide +kernel)), by decide +kernel⟩
theorem wB_1680 : Cond.methodLink RL 12 yX12_init ∈ dgB := List.mem_filter.mpr ⟨tbl_6 _ (List.mem_of_getElem? (i := 158) (by decide +kernel)), by decide +kernel⟩
theorem wB_1681 : Cond.instanceMethod yX12_init ∈ dgB := List.mem_filter.mpr ⟨tbl_6 _ (List.mem_of_getElem? (i := 159) (by decide +kernel)), by decide +kernel⟩
/-! the law from its entry -/
theorem lw_apM1 {g : Nat → ClassId} {oX oM : Nat} {rf : dg_R} {S : dg_S} (hO : oX + 380 ≤ oM) : ∀ (k : Nat) (q : Nat × va_E), (dg_w g shX oX rf S)[k]? = some q → ¬ (oM ≤ q.1 ∧ q.1 < oM + (shM.take 1).length) := by
  intro k q h
  have h1 := dg_w_key h
  rw [shX_len] at h1
  omega
set_option maxHeartbeats 8000000 in
set_option maxRecDepth 100000 in
theorem whole_start {p : Program} {e : Env} {s : State} {m : MethodId} {below : List Frame} {meth : Method} {c : Code} (l : Launch) (_hflags : l.flags = flags0) {b L : Nat} {xs : Nat → Int32} (hL : L ≤ 3072) (C0 : lw_At p s m meth c b L xs) : W p l e room_1 s m #[Value.ref b] below meth c s.heap [] 0 0 (lw_Z below #[Value.ref b] s) (entryFrame m ([Value.ref b] : List Value).toArray 4) := by
  obtain ⟨hx, hb0, hr, hml, hown0, hts, hX, hbl, hlocks, hgv⟩ := id C0
  have hb : c.code = cL_law := hb0
  have hown : s.vm.findClass RL = some m.cls := hown0
  obtain ⟨D, g, K⟩ := law_tables hts
  obtain ⟨A, hA, hAi⟩ : ∃ A : Nat → Prop, (∀ q : Nat, s.heap.size ≤ q → A q) ∧ ∀ q : Nat, A q → s.heap.size ≤ q := ⟨fun q => s.heap.size ≤ q, fun _ h => h, fun _ h => h⟩
  have ST : dk_ST A s s.heap := law_ST hts hgv (fun a h z => Nat.not_le.mpr h (hAi a z))
  have C : law_St p s m meth c b L xs g D A := ⟨hx, hb, hr, hml, hown, hts, hX, hbl, hlocks, K, hA, hAi⟩
  have hS : va_S A s.heap s.heap [] := va_S.rf
  have hW : va_P D vwCl [] s.heap := fun k q h => by simp at h
  have hl := lv_entry ([.ref b]) (n := 4) (Nat.le_of_ble_eq_true rfl)
  rw [lg_entry_eq]
  generalize (lg_sl ([.ref b]) ++ List.replicate (4 - (lg_sl ([.ref b])).length) Slot.unset).toArray = ls at hl ⊢
  have hl : lv_has ls 4 [(0, .ref b)] := hl
  have F : CallFix p m c cL_law 4 s #[Value.ref b] lw_tbl RL := ⟨hx, hb, hml, hown, hts⟩
  obtain ⟨oX, hoX⟩ : ∃ o, o = s.heap.size := ⟨_, rfl⟩
  have hoXA : ∀ i, A (oX + i) := fun i => hA _ (by rw [hoX]; exact Nat.le_add_right _ _)
  refine lw_newo (ci := 11) (C := RX11) (T := TX11) (N := 13) (rf := dg_rf0) (sh := shX) hx hb hts (fun w h => lw_mem (wU_X11 w h)) tyX11 tyX11_ok hown (hts _ (lw_mem wB_1676)) (hts _ (lw_mem wB_1400)) (hts _ (lw_mem wB_610)) K hW hS hoX.symm sX_0 rfl (Nat.le_of_ble_eq_true rfl) (Nat.le_of_ble_eq_true rfl) dL_law_0 (fun SX0 d0 H hP hW hS hz => ?_)
  refine W.widen (k := 1) (n := 13) (Nat.le_of_ble_eq_true rfl) (Nat.le_of_ble_eq_true rfl) ?_
  refine lv_dup hx hb dL_law_3 rfl ?_
  refine lw_gcallv hz hS (fun i _ => hoXA i) hA (va_runI (As := []) (rest := [.ref (oX + 0)]) F (c_n_mine l g D oX SX0 (fun b _ => d0 b)) (cwI 0 hts (lw_bw wB_1674) rfl rfl rfl (hts _ (lw_mem wB_610)) (hts _ (lw_mem wB_1677)) (hts _ (lw_mem wB_1678)) rfl (by decide +kernel) ⟨Nat.le_of_ble_eq_true rfl, Nat.le_of_ble_eq_true rfl⟩) (by rw [← hz]; exact dg_preS K ST hP hS (fun i _ => hoXA i) hA) rfl rfl hl.1 rfl (lv_room (Nat.le_of_ble_eq_true rfl)) dL_law_4 ⟨Nat.le_of_ble_eq_true rfl, Nat.le_of_ble_eq_true rfl⟩) hW (fun k q h => by simp at h) (fun SX hw H locs hP hW hS => ?_)
  obtain ⟨IX, Z1, Z2, Z3, Z4, Z6, tX, gX6, gX7, gX0, sx1, -⟩ := hw
  refine W.widen (k := 380) (n := 19843) (Nat.le_of_ble_eq_true rfl) (Nat.le_of_ble_eq_true rfl) ?_
  refine lv_astore_n (lv' := [(1, .ref (oX + 0)), (0, .ref b)]) hx hb dL_law_7 rfl hl (dk_dq rfl) rfl (fun ls hl => ?_)
  have hW := hP
  obtain ⟨oM, hoM⟩ : ∃ o, o = H.size := ⟨_, rfl⟩
  have hO : oX + 380 ≤ oM := by
    have h1 := (hP 379 _ (dg_w_get (by rw [shX_len]; omega))).lt
    have h2 : oX + 379 < H.size := h1
    omega
  have hoMA : ∀ i, A (oM + i) := fun i => hA _ (by have h1 := hS.1; omega)
  refine lw_newo (ci := 12) (C := RX12) (T := TX12) (N := 77) (rf := rfM) (sh := shM) hx hb hts (fun w h => lw_mem (wU_X12 w h)) tyX12 tyX12_ok hown (hts _ (lw_mem wB_1679)) (hts _ (lw_mem wB_1401)) (hts _ (lw_mem wB_297)) K hW hS hoM.symm sM_0 rfl (Nat.le_of_ble_eq_true rfl) (Nat.le_of_ble_eq_true rfl) dL_law_8 (fun SM0 d0 H hP hW hS hz => ?_)
  refine W.widen (k := 381) (n := 19920) (Nat.le_of_ble_eq_true rfl) (Nat.le_of_ble_eq_true rfl) ?_
  refine lv_dup hx hb dL_law_11 rfl ?_
  refine lw_gcallv hz hS (fun i _ => hoMA i) hA (va_runI (As := []) (rest := [.ref (oM + 0)]) F (c_n_model l g D oM SM0 (fun b _ => d0 b)) (cwI 0 hts (lw_bw wB_1675) rfl rfl rfl (hts _ (lw_mem wB_297)) (hts _ (lw_mem wB_1680)) (hts _ (lw_mem wB_1681)) rfl (by decide +kernel) ⟨Nat.le_of_ble_eq_true rfl, Nat.le_of_ble_eq_true rfl⟩) (by rw [← hz]; exact dg_preS K ST hP hS (fun i _ => hoMA i) hA) rfl rfl hl.1 rfl (lv_room (Nat.le_of_ble_eq_true rfl)) dL_law_12 ⟨Nat.le_of_ble_eq_true rfl, Nat.le_of_ble_eq_true rfl⟩) hW (lw_apM1 hO) (fun SM hw H locs hP hW hS => ?_)
  obtain ⟨IM, ZB, ZS, ZW, ZD, tM, gM0, sm1, -⟩ := hw
  refine W.widen (k := 431) (n := 78943) (Nat.le_of_ble_eq_true rfl) (Nat.le_of_ble_eq_true rfl) ?_
  refine lv_astore_n (lv' := [(2, .ref (oM + 0)), (1, .ref (oX + 0)), (0, .ref b)]) hx hb dL_law_15 rfl hl (dk_dq rfl) rfl (fun ls hl => ?_)
  refine lv_iconst (v := 0) hx hb dL_law_16 (by decide +kernel) ?_
  refine lv_istore_n (lv' := [(3, .int 0), (2, .ref (oM + 0)), (1, .ref (oX + 0)), (0, .ref b)]) hx hb dL_law_17 rfl hl (dk_dq rfl) rfl (fun ls hl => ?_)
  exact law_loop l C ST hO hoXA hoMA hL 4000 0 (by decide +kernel) (by decide +kernel) (by decide +kernel) SX SM H locs ls hW hP hS ⟨IX, Z1, Z2, Z3, Z4, Z6⟩ ⟨IM, ZB, ZS, ZW, ZD⟩ ⟨0, tX, tM, fun j hj => absurd hj (by have h9 := dk_clN (0 : Int32); have h8 : (0 : Int32).toInt = 0 := (by decide +kernel); omega)⟩ ⟨185, 197, LW.start sx1 sm1 tX tM gX6 gX7⟩ hl
end
section
/-! 64.end.lean.txt -/
/-! the law: to the claim -/
set_option maxHeartbeats 4000000 in
theorem lw_walk (l : Launch) (hflags : l.flags = flags0) (b : Addr) (xs : List Int32) : MetFree l x (headSpec (Jvm.Cond.code x code maxLocals ret :: tables_1) room_1) (lw_P b xs) (fun _ _ _ _ _ => True) lw_Q := by
  refine MetFree.of_bodyS (code := code) (maxLocals := maxLocals) (ret := ret) (dk_dq rfl) ?_ ?_
  · intro args s m h hn
    obtain ⟨meth, c, h1, h2, h3, h4, h5, h6, -, -⟩ := Cond.code_spec hn (atoms_spec (ws := Jvm.Cond.code x code maxLocals ret :: tables_1) h _ List.mem_cons_self)
    exact ⟨meth, c, h1, h2, h3, h4, h5, h6⟩
  · intro p e s m args below meth c s₁ B hml0 hP _
    obtain ⟨rfl, hx, hbd, hgv⟩ := hP
    obtain ⟨scr, harrAt, hlist, hof, hsmall⟩ := hx
    obtain ⟨hcb, hkn, -, -⟩ := State.arrayAt?_spec harrAt
    have hown : s.vm.findClass R_law = some m.cls := findClass_of_methodNamed B.named
    have hts0 : ∀ c ∈ (Jvm.Cond.code x code maxLocals ret :: tables_1), c.before #[Value.ref b] s = true := atoms_spec (ws := Jvm.Cond.code x code maxLocals ret :: tables_1) B.pre
    have hts : ∀ w ∈ lw_tbl, w.before #[Value.ref b] s = true := k2_hts_sels lw_privs (fun w hw => hts0 w (List.mem_cons_of_mem _ hw)) lw_privs_ok
    have hml : c.maxLocals = 4 := B.maxLocals_eq (hts0 _ List.mem_cons_self)
    have X₀ : Stand p l e room_1 s m #[Value.ref b] below meth c s₁ [] 0 0 := Stand.of_body B
    have hh0 : s₁.heap = s.heap := by rw [B.state]; rfl
    have hsz : scr.slots.size = xs.length := by rw [← Array.length_toList, hlist, List.length_map]
    have hval : ∀ j : Nat, j < xs.length → scr.slots[j]? = some (.int (xs.getD j 0)) := fun j hj => by
      rw [← Array.getElem?_toList, hlist]
      simp [hj]
    have hbl : b < s.heap.size := (Array.getElem?_eq_some_iff.mp hcb).1
    have hX : va_X b xs.length (fun j => xs.getD j 0) s s.heap := ⟨scr, hcb, hof, hkn, hsz, hval⟩
    have K : W p l e room_1 s m #[Value.ref b] below meth c s₁.heap [] 0 0 (lw_Z below #[Value.ref b] s) (entryFrame m ([Value.ref b] : List Value).toArray 4) := by
      rw [hh0]
      exact whole_start l hflags hbd ⟨B.exec, B.bytes, B.returns, hml, hown, hts, hX, hbl, B.notSynchronized, hgv⟩
    obtain ⟨t, a1, o, b1, b2, b3⟩ := K s₁ rfl X₀
    exact ⟨t, o, a1, b1, b2, b3⟩
theorem lw_pre_spec {args : Array Value} {s : State} (h : (Jvm.Cond.and given_1 narrow_1).before args s = true) (hr : rest_1_c.before args s = true) : ∃ (b : Addr) (xs : List Int32), lw_P b xs args s := by
  have hs := flat_of_before _ h
  have hq := flat_of_before _ hr
  have hc : (Cond.count 1).before args s = true := hs _ (by decide +kernel)
  have harr : (Cond.arrayOf (.arg 0) .int).before args s = true := hs _ (by decide +kernel)
  have hle : (Cond.le (.length (.arg 0)) (.int 3072)).before args s = true := hs _ (by decide +kernel)
  have hlen : (Cond.isInt (.length (.arg 0))).before args s = true := hq _ (by decide +kernel)
  have hall : (Cond.all (.arg 0) (.isInt (.elem (.arg 0) (.index 0)))).before args s = true := hq _ (by decide +kernel)
  obtain ⟨b, xs, hb, hx⟩ := State.ints_of_pre rfl harr hlen hall
  have hsm : xs.length < 2 ^ 31 := hx.choose_spec.2.2.2
  have hev : (Term.length (.arg 0)).eval args s none [] s = some (.int xs.length.toInt32) := hx.length_eval hb
  have hv := Cond.le_ints hev (show (Term.int 3072).eval args s none [] s = some (.int 3072) from rfl)
  have hd : xs.length.toInt32 ≤ 3072 := by
    simpa [Cond.before, Cond.holds, hv] using hle
  have hN : xs.length ≤ 3072 := (Int32.ofNat_le_ofNat hsm (dk_dq rfl)).mp (show Int32.ofNat xs.length ≤ Int32.ofNat 3072 from hd)
  exact ⟨b, xs, Cond.one_arg hc (show args[0]? = some (.ref b) from hb), hx, hN, h⟩
theorem lw_comes (l : Launch) (hflags : l.flags = flags0) : Comes l x (Jvm.Cond.code x code maxLocals ret :: tables_1) room_1 (fun tb e args s => Calls_1 tb e args s ∧ rest_1 tb e args s ∧ Pre_1 tb e args s)
    (fun _ _ args s o t => lw_Q args s o t) := by
  intro p e ha hc hk s m args below hf hfit hheap happ hpre
  obtain ⟨b, xs, hP⟩ := lw_pre_spec hpre.2.2 hpre.2.1
  obtain ⟨k, o, h1, h2, h3, hQ⟩ := lw_walk l hflags b xs p e ha hc hk s m args below hf ((Spec.applies_iff_loose hf).mp happ).1 hP trivial
  exact ⟨k, o, h1, h2, h3, hQ⟩
theorem lw_frame {s t : State} {o : Outcome} {args : Array Value} (h : Framed s o t [] 600000 7302249) :
    Framed s o t (fieldLocs frame_1_writes args s ++ arrayLocs frame_1_arrays args s ++ staticLocs frame_1_statics s) 600000 7302249 := h
theorem lw_limb (L : Cond) (hL : ∀ (args : Array Value) (s t : State), L.after args s (.returned (some (.int 1))) t = true) :
    ArmFor flags0 classFile x code maxLocals ret World_1 tables_1 room_1 Calls_1 rest_1 Pre_1
      (fun tb e a s o t => postC L tb e a s o t ∧ Framed s o t (fieldLocs frame_1_writes a s ++ arrayLocs frame_1_arrays a s ++ staticLocs frame_1_statics s) 600000 7302249) := by
  intro l hflags _ _ p e ha hc hk s m args below hf hfit hheap happ hpre
  obtain ⟨k, o, h1, h2, h3, rfl, hF⟩ := lw_comes l hflags p e ha hc hk s m args below hf hfit hheap happ hpre
  exact ⟨k, _, h1, h2, h3, hL args s _, lw_frame hF⟩
theorem i_vc : Claimed_1_1 ∧ Claimed_1_2 := ⟨lw_limb limb_1_1 (fun args s t => by simp [limb_1_1, Cond.after, Cond.holds, Cond.value]), lw_limb limb_1_2 (fun args s t => Cond.after_iff.mpr (by
  first | (rw [show limb_1_2 = Cond.eq .result (.int 1) from rfl, Cond.eq_ints (x := 1) (y := 1) rfl rfl]; simp; done) | (simp [limb_1_2, Cond.value, Term.eval]; done)))⟩
end
