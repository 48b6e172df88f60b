/-! 10.pit.lean.txt -/
theorem dX5_begin_0 : decode cX5_begin 0 = .ok (.aload_n 0, 1) := dk_o42 (by decide +kernel)
theorem dX5_begin_1 : decode cX5_begin 1 = .ok (.iconst 0, 1) := dk_o3 (by decide +kernel)
theorem dX5_begin_2 : decode cX5_begin 2 = .ok (.putfield 30, 3) := dk_o181 (by decide +kernel)
theorem dX5_begin_5 : decode cX5_begin 5 = .ok (.aload_n 0, 1) := dk_o42 (by decide +kernel)
theorem dX5_begin_6 : decode cX5_begin 6 = .ok (.iconst 0, 1) := dk_o3 (by decide +kernel)
theorem dX5_begin_7 : decode cX5_begin 7 = .ok (.putfield 34, 3) := dk_o181 (by decide +kernel)
theorem dX5_begin_10 : decode cX5_begin 10 = .ok (.aload_n 0, 1) := dk_o42 (by decide +kernel)
theorem dX5_begin_11 : decode cX5_begin 11 = .ok (.getfield 9, 3) := dk_o180 (by decide +kernel)
theorem dX5_begin_14 : decode cX5_begin 14 = .ok (.bipush 100, 2) := dk_o16 (by decide +kernel)
theorem dX5_begin_16 : decode cX5_begin 16 = .ok (.invokestatic 37, 3) := dk_o184 (by decide +kernel)
theorem dX5_begin_19 : decode cX5_begin 19 = .ok (.iconst 0, 1) := dk_o3 (by decide +kernel)
theorem dX5_begin_20 : decode cX5_begin 20 = .ok (.istore_n 2, 1) := dk_o61 (by decide +kernel)
theorem dX5_begin_21 : decode cX5_begin 21 = .ok (.iload_n 2, 1) := dk_o28 (by decide +kernel)
theorem dX5_begin_22 : decode cX5_begin 22 = .ok (.aload_n 1, 1) := dk_o43 (by decide +kernel)
theorem dX5_begin_23 : decode cX5_begin 23 = .ok (.getfield 43, 3) := dk_o180 (by decide +kernel)
theorem dX5_begin_26 : decode cX5_begin 26 = .ok (.if_icmp .ge 34, 3) := dk_o162 (by decide +kernel)
theorem dX5_begin_29 : decode cX5_begin 29 = .ok (.bipush 8, 2) := dk_o16 (by decide +kernel)
theorem dX5_begin_31 : decode cX5_begin 31 = .ok (.iload_n 2, 1) := dk_o28 (by decide +kernel)
theorem dX5_begin_32 : decode cX5_begin 32 = .ok (.imul, 1) := dk_o104 (by decide +kernel)
theorem dX5_begin_33 : decode cX5_begin 33 = .ok (.bipush 8, 2) := dk_o16 (by decide +kernel)
theorem dX5_begin_35 : decode cX5_begin 35 = .ok (.iadd, 1) := dk_o96 (by decide +kernel)
theorem dX5_begin_36 : decode cX5_begin 36 = .ok (.istore_n 3, 1) := dk_o62 (by decide +kernel)
theorem dX5_begin_37 : decode cX5_begin 37 = .ok (.aload_n 1, 1) := dk_o43 (by decide +kernel)
theorem dX5_begin_38 : decode cX5_begin 38 = .ok (.getfield 48, 3) := dk_o180 (by decide +kernel)
theorem dX5_begin_41 : decode cX5_begin 41 = .ok (.iload_n 3, 1) := dk_o29 (by decide +kernel)
theorem dX5_begin_42 : decode cX5_begin 42 = .ok (.aload_n 0, 1) := dk_o42 (by decide +kernel)
theorem dX5_begin_43 : decode cX5_begin 43 = .ok (.getfield 9, 3) := dk_o180 (by decide +kernel)
theorem dX5_begin_46 : decode cX5_begin 46 = .ok (.iload_n 3, 1) := dk_o29 (by decide +kernel)
theorem dX5_begin_47 : decode cX5_begin 47 = .ok (.aload_n 1, 1) := dk_o43 (by decide +kernel)
theorem dX5_begin_48 : decode cX5_begin 48 = .ok (.getfield 51, 3) := dk_o180 (by decide +kernel)
theorem dX5_begin_51 : decode cX5_begin 51 = .ok (.invokestatic 54, 3) := dk_o184 (by decide +kernel)
theorem dX5_begin_54 : decode cX5_begin 54 = .ok (.iinc 2 1, 3) := dk_o132 (by decide +kernel)
theorem dX5_begin_57 : decode cX5_begin 57 = .ok (.goto (-36), 3) := dk_o167 (by decide +kernel)
theorem dX5_begin_60 : decode cX5_begin 60 = .ok (.aload_n 1, 1) := dk_o43 (by decide +kernel)
theorem dX5_begin_61 : decode cX5_begin 61 = .ok (.invokevirtual 60, 3) := dk_o182 (by decide +kernel)
theorem dX5_begin_64 : decode cX5_begin 64 = .ok (.ifCond .eq 15, 3) := dk_o153 (by decide +kernel)
theorem dX5_begin_67 : decode cX5_begin 67 = .ok (.aload_n 0, 1) := dk_o42 (by decide +kernel)
theorem dX5_begin_68 : decode cX5_begin 68 = .ok (.getfield 9, 3) := dk_o180 (by decide +kernel)
theorem dX5_begin_71 : decode cX5_begin 71 = .ok (.aload_n 1, 1) := dk_o43 (by decide +kernel)
theorem dX5_begin_72 : decode cX5_begin 72 = .ok (.getfield 64, 3) := dk_o180 (by decide +kernel)
theorem dX5_begin_75 : decode cX5_begin 75 = .ok (.sipush 255, 3) := dk_o17 (by decide +kernel)
theorem dX5_begin_78 : decode cX5_begin 78 = .ok (.iastore, 1) := dk_o79 (by decide +kernel)
theorem dX5_begin_79 : decode cX5_begin 79 = .ok (.aload_n 0, 1) := dk_o42 (by decide +kernel)
theorem dX5_begin_80 : decode cX5_begin 80 = .ok (.getfield 15, 3) := dk_o180 (by decide +kernel)
theorem dX5_begin_83 : decode cX5_begin 83 = .ok (.iconst 0, 1) := dk_o3 (by decide +kernel)
theorem dX5_begin_84 : decode cX5_begin 84 = .ok (.invokestatic 37, 3) := dk_o184 (by decide +kernel)
theorem dX5_begin_87 : decode cX5_begin 87 = .ok (.aload_n 1, 1) := dk_o43 (by decide +kernel)
theorem dX5_begin_88 : decode cX5_begin 88 = .ok (.getfield 67, 3) := dk_o180 (by decide +kernel)
theorem dX5_begin_91 : decode cX5_begin 91 = .ok (.iconst 0, 1) := dk_o3 (by decide +kernel)
theorem dX5_begin_92 : decode cX5_begin 92 = .ok (.aload_n 0, 1) := dk_o42 (by decide +kernel)
theorem dX5_begin_93 : decode cX5_begin 93 = .ok (.getfield 18, 3) := dk_o180 (by decide +kernel)
theorem dX5_begin_96 : decode cX5_begin 96 = .ok (.iconst 0, 1) := dk_o3 (by decide +kernel)
theorem dX5_begin_97 : decode cX5_begin 97 = .ok (.bipush 16, 2) := dk_o16 (by decide +kernel)
theorem dX5_begin_99 : decode cX5_begin 99 = .ok (.invokestatic 54, 3) := dk_o184 (by decide +kernel)
theorem dX5_begin_102 : decode cX5_begin 102 = .ok (.aload_n 1, 1) := dk_o43 (by decide +kernel)
theorem dX5_begin_103 : decode cX5_begin 103 = .ok (.getfield 68, 3) := dk_o180 (by decide +kernel)
theorem dX5_begin_106 : decode cX5_begin 106 = .ok (.iconst 0, 1) := dk_o3 (by decide +kernel)
theorem dX5_begin_107 : decode cX5_begin 107 = .ok (.aload_n 0, 1) := dk_o42 (by decide +kernel)
theorem dX5_begin_108 : decode cX5_begin 108 = .ok (.getfield 21, 3) := dk_o180 (by decide +kernel)
theorem dX5_begin_111 : decode cX5_begin 111 = .ok (.iconst 0, 1) := dk_o3 (by decide +kernel)
theorem dX5_begin_112 : decode cX5_begin 112 = .ok (.bipush 16, 2) := dk_o16 (by decide +kernel)
theorem dX5_begin_114 : decode cX5_begin 114 = .ok (.invokestatic 54, 3) := dk_o184 (by decide +kernel)
theorem dX5_begin_117 : decode cX5_begin 117 = .ok (.aload_n 0, 1) := dk_o42 (by decide +kernel)
theorem dX5_begin_118 : decode cX5_begin 118 = .ok (.getfield 24, 3) := dk_o180 (by decide +kernel)
theorem dX5_begin_121 : decode cX5_begin 121 = .ok (.iconst 0, 1) := dk_o3 (by decide +kernel)
theorem dX5_begin_122 : decode cX5_begin 122 = .ok (.invokestatic 37, 3) := dk_o184 (by decide +kernel)
theorem dX5_begin_125 : decode cX5_begin 125 = .ok (.aload_n 0, 1) := dk_o42 (by decide +kernel)
theorem dX5_begin_126 : decode cX5_begin 126 = .ok (.getfield 27, 3) := dk_o180 (by decide +kernel)
theorem dX5_begin_129 : decode cX5_begin 129 = .ok (.iconst 0, 1) := dk_o3 (by decide +kernel)
theorem dX5_begin_130 : decode cX5_begin 130 = .ok (.invokestatic 37, 3) := dk_o184 (by decide +kernel)
theorem dX5_begin_133 : decode cX5_begin 133 = .ok (.return_, 1) := dk_o177 (by decide +kernel)
theorem dX5_copy_0 : decode cX5_copy 0 = .ok (.aload_n 0, 1) := dk_o42 (by decide +kernel)
theorem dX5_copy_1 : decode cX5_copy 1 = .ok (.aload_n 1, 1) := dk_o43 (by decide +kernel)
theorem dX5_copy_2 : decode cX5_copy 2 = .ok (.getfield 30, 3) := dk_o180 (by decide +kernel)
theorem dX5_copy_5 : decode cX5_copy 5 = .ok (.putfield 30, 3) := dk_o181 (by decide +kernel)
theorem dX5_copy_8 : decode cX5_copy 8 = .ok (.aload_n 0, 1) := dk_o42 (by decide +kernel)
theorem dX5_copy_9 : decode cX5_copy 9 = .ok (.aload_n 1, 1) := dk_o43 (by decide +kernel)
theorem dX5_copy_10 : decode cX5_copy 10 = .ok (.getfield 34, 3) := dk_o180 (by decide +kernel)
theorem dX5_copy_13 : decode cX5_copy 13 = .ok (.putfield 34, 3) := dk_o181 (by decide +kernel)
theorem dX5_copy_16 : decode cX5_copy 16 = .ok (.aload_n 1, 1) := dk_o43 (by decide +kernel)
theorem dX5_copy_17 : decode cX5_copy 17 = .ok (.getfield 9, 3) := dk_o180 (by decide +kernel)
theorem dX5_copy_20 : decode cX5_copy 20 = .ok (.iconst 0, 1) := dk_o3 (by decide +kernel)
theorem dX5_copy_21 : decode cX5_copy 21 = .ok (.aload_n 0, 1) := dk_o42 (by decide +kernel)
theorem dX5_copy_22 : decode cX5_copy 22 = .ok (.getfield 9, 3) := dk_o180 (by decide +kernel)
theorem dX5_copy_25 : decode cX5_copy 25 = .ok (.iconst 0, 1) := dk_o3 (by decide +kernel)
theorem dX5_copy_26 : decode cX5_copy 26 = .ok (.bipush 72, 2) := dk_o16 (by decide +kernel)
theorem dX5_copy_28 : decode cX5_copy 28 = .ok (.invokestatic 54, 3) := dk_o184 (by decide +kernel)
theorem dX5_copy_31 : decode cX5_copy 31 = .ok (.aload_n 1, 1) := dk_o43 (by decide +kernel)
theorem dX5_copy_32 : decode cX5_copy 32 = .ok (.getfield 15, 3) := dk_o180 (by decide +kernel)
theorem dX5_copy_35 : decode cX5_copy 35 = .ok (.iconst 0, 1) := dk_o3 (by decide +kernel)
theorem dX5_copy_36 : decode cX5_copy 36 = .ok (.aload_n 0, 1) := dk_o42 (by decide +kernel)
theorem dX5_copy_37 : decode cX5_copy 37 = .ok (.getfield 15, 3) := dk_o180 (by decide +kernel)
theorem dX5_copy_40 : decode cX5_copy 40 = .ok (.iconst 0, 1) := dk_o3 (by decide +kernel)
theorem dX5_copy_41 : decode cX5_copy 41 = .ok (.bipush 6, 2) := dk_o16 (by decide +kernel)
theorem dX5_copy_43 : decode cX5_copy 43 = .ok (.invokestatic 54, 3) := dk_o184 (by decide +kernel)
theorem dX5_copy_46 : decode cX5_copy 46 = .ok (.aload_n 1, 1) := dk_o43 (by decide +kernel)
theorem dX5_copy_47 : decode cX5_copy 47 = .ok (.getfield 18, 3) := dk_o180 (by decide +kernel)
theorem dX5_copy_50 : decode cX5_copy 50 = .ok (.iconst 0, 1) := dk_o3 (by decide +kernel)
theorem dX5_copy_51 : decode cX5_copy 51 = .ok (.aload_n 0, 1) := dk_o42 (by decide +kernel)
theorem dX5_copy_52 : decode cX5_copy 52 = .ok (.getfield 18, 3) := dk_o180 (by decide +kernel)
theorem dX5_copy_55 : decode cX5_copy 55 = .ok (.iconst 0, 1) := dk_o3 (by decide +kernel)
theorem dX5_copy_56 : decode cX5_copy 56 = .ok (.bipush 16, 2) := dk_o16 (by decide +kernel)
theorem dX5_copy_58 : decode cX5_copy 58 = .ok (.invokestatic 54, 3) := dk_o184 (by decide +kernel)
theorem dX5_copy_61 : decode cX5_copy 61 = .ok (.aload_n 1, 1) := dk_o43 (by decide +kernel)
theorem dX5_copy_62 : decode cX5_copy 62 = .ok (.getfield 21, 3) := dk_o180 (by decide +kernel)
theorem dX5_copy_65 : decode cX5_copy 65 = .ok (.iconst 0, 1) := dk_o3 (by decide +kernel)
theorem dX5_copy_66 : decode cX5_copy 66 = .ok (.aload_n 0, 1) := dk_o42 (by decide +kernel)
theorem dX5_copy_67 : decode cX5_copy 67 = .ok (.getfield 21, 3) := dk_o180 (by decide +kernel)
theorem dX5_copy_70 : decode cX5_copy 70 = .ok (.iconst 0, 1) := dk_o3 (by decide +kernel)
theorem dX5_copy_71 : decode cX5_copy 71 = .ok (.bipush 16, 2) := dk_o16 (by decide +kernel)
theorem dX5_copy_73 : decode cX5_copy 73 = .ok (.invokestatic 54, 3) := dk_o184 (by decide +kernel)
theorem dX5_copy_76 : decode cX5_copy 76 = .ok (.aload_n 1, 1) := dk_o43 (by decide +kernel)
theorem dX5_copy_77 : decode cX5_copy 77 = .ok (.getfield 24, 3) := dk_o180 (by decide +kernel)
theorem dX5_copy_80 : decode cX5_copy 80 = .ok (.iconst 0, 1) := dk_o3 (by decide +kernel)
theorem dX5_copy_81 : decode cX5_copy 81 = .ok (.aload_n 0, 1) := dk_o42 (by decide +kernel)
theorem dX5_copy_82 : decode cX5_copy 82 = .ok (.getfield 24, 3) := dk_o180 (by decide +kernel)
theorem dX5_copy_85 : decode cX5_copy 85 = .ok (.iconst 0, 1) := dk_o3 (by decide +kernel)
theorem dX5_copy_86 : decode cX5_copy 86 = .ok (.iconst 5, 1) := dk_o8 (by decide +kernel)
theorem dX5_copy_87 : decode cX5_copy 87 = .ok (.invokestatic 54, 3) := dk_o184 (by decide +kernel)
theorem dX5_copy_90 : decode cX5_copy 90 = .ok (.aload_n 1, 1) := dk_o43 (by decide +kernel)
theorem dX5_copy_91 : decode cX5_copy 91 = .ok (.getfield 27, 3) := dk_o180 (by decide +kernel)
theorem dX5_copy_94 : decode cX5_copy 94 = .ok (.iconst 0, 1) := dk_o3 (by decide +kernel)
theorem dX5_copy_95 : decode cX5_copy 95 = .ok (.aload_n 0, 1) := dk_o42 (by decide +kernel)
theorem dX5_copy_96 : decode cX5_copy 96 = .ok (.getfield 27, 3) := dk_o180 (by decide +kernel)
theorem dX5_copy_99 : decode cX5_copy 99 = .ok (.iconst 0, 1) := dk_o3 (by decide +kernel)
theorem dX5_copy_100 : decode cX5_copy 100 = .ok (.bipush 10, 2) := dk_o16 (by decide +kernel)
theorem dX5_copy_102 : decode cX5_copy 102 = .ok (.invokestatic 54, 3) := dk_o184 (by decide +kernel)
theorem dX5_copy_105 : decode cX5_copy 105 = .ok (.return_, 1) := dk_o177 (by decide +kernel)
theorem dX5_isOpen_0 : decode cX5_isOpen 0 = .ok (.aload_n 0, 1) := dk_o42 (by decide +kernel)
theorem dX5_isOpen_1 : decode cX5_isOpen 1 = .ok (.getfield 9, 3) := dk_o180 (by decide +kernel)
theorem dX5_isOpen_4 : decode cX5_isOpen 4 = .ok (.iload_n 1, 1) := dk_o27 (by decide +kernel)
theorem dX5_isOpen_5 : decode cX5_isOpen 5 = .ok (.iaload, 1) := dk_o46 (by decide +kernel)
theorem dX5_isOpen_6 : decode cX5_isOpen 6 = .ok (.sipush 254, 3) := dk_o17 (by decide +kernel)
theorem dX5_isOpen_9 : decode cX5_isOpen 9 = .ok (.if_icmp .lt 7, 3) := dk_o161 (by decide +kernel)
theorem dX5_isOpen_12 : decode cX5_isOpen 12 = .ok (.iconst 1, 1) := dk_o4 (by decide +kernel)
theorem dX5_isOpen_13 : decode cX5_isOpen 13 = .ok (.goto 4, 3) := dk_o167 (by decide +kernel)
theorem dX5_isOpen_16 : decode cX5_isOpen 16 = .ok (.iconst 0, 1) := dk_o3 (by decide +kernel)
theorem dX5_isOpen_17 : decode cX5_isOpen 17 = .ok (.ireturn, 1) := dk_o172 (by decide +kernel)
theorem dX5_isSolid_0 : decode cX5_isSolid 0 = .ok (.aload_n 0, 1) := dk_o42 (by decide +kernel)
theorem dX5_isSolid_1 : decode cX5_isSolid 1 = .ok (.getfield 9, 3) := dk_o180 (by decide +kernel)
theorem dX5_isSolid_4 : decode cX5_isSolid 4 = .ok (.iload_n 1, 1) := dk_o27 (by decide +kernel)
theorem dX5_isSolid_5 : decode cX5_isSolid 5 = .ok (.iaload, 1) := dk_o46 (by decide +kernel)
theorem dX5_isSolid_6 : decode cX5_isSolid 6 = .ok (.bipush 9, 2) := dk_o16 (by decide +kernel)
theorem dX5_isSolid_8 : decode cX5_isSolid 8 = .ok (.if_icmp .gt 7, 3) := dk_o163 (by decide +kernel)
theorem dX5_isSolid_11 : decode cX5_isSolid 11 = .ok (.iconst 1, 1) := dk_o4 (by decide +kernel)
theorem dX5_isSolid_12 : decode cX5_isSolid 12 = .ok (.goto 4, 3) := dk_o167 (by decide +kernel)
theorem dX5_isSolid_15 : decode cX5_isSolid 15 = .ok (.iconst 0, 1) := dk_o3 (by decide +kernel)
theorem dX5_isSolid_16 : decode cX5_isSolid 16 = .ok (.ireturn, 1) := dk_o172 (by decide +kernel)
theorem dX5_gradeAt_0 : decode cX5_gradeAt 0 = .ok (.aload_n 0, 1) := dk_o42 (by decide +kernel)
theorem dX5_gradeAt_1 : decode cX5_gradeAt 1 = .ok (.iload_n 1, 1) := dk_o27 (by decide +kernel)
theorem dX5_gradeAt_2 : decode cX5_gradeAt 2 = .ok (.invokevirtual 69, 3) := dk_o182 (by decide +kernel)
theorem dX5_gradeAt_5 : decode cX5_gradeAt 5 = .ok (.ifCond .eq 12, 3) := dk_o153 (by decide +kernel)
theorem dX5_gradeAt_8 : decode cX5_gradeAt 8 = .ok (.aload_n 0, 1) := dk_o42 (by decide +kernel)
theorem dX5_gradeAt_9 : decode cX5_gradeAt 9 = .ok (.getfield 9, 3) := dk_o180 (by decide +kernel)
theorem dX5_gradeAt_12 : decode cX5_gradeAt 12 = .ok (.iload_n 1, 1) := dk_o27 (by decide +kernel)
theorem dX5_gradeAt_13 : decode cX5_gradeAt 13 = .ok (.iaload, 1) := dk_o46 (by decide +kernel)
theorem dX5_gradeAt_14 : decode cX5_gradeAt 14 = .ok (.goto 4, 3) := dk_o167 (by decide +kernel)
theorem dX5_gradeAt_17 : decode cX5_gradeAt 17 = .ok (.iconst (-1), 1) := dk_o2 (by decide +kernel)
theorem dX5_gradeAt_18 : decode cX5_gradeAt 18 = .ok (.ireturn, 1) := dk_o172 (by decide +kernel)
theorem dX5_openBeside_0 : decode cX5_openBeside 0 = .ok (.iconst 0, 1) := dk_o3 (by decide +kernel)
theorem dX5_openBeside_1 : decode cX5_openBeside 1 = .ok (.istore_n 2, 1) := dk_o61 (by decide +kernel)
theorem dX5_openBeside_2 : decode cX5_openBeside 2 = .ok (.getstatic 73, 3) := dk_o178 (by decide +kernel)
theorem dX5_openBeside_5 : decode cX5_openBeside 5 = .ok (.astore_n 3, 1) := dk_o78 (by decide +kernel)
theorem dX5_openBeside_6 : decode cX5_openBeside 6 = .ok (.aload_n 3, 1) := dk_o45 (by decide +kernel)
theorem dX5_openBeside_7 : decode cX5_openBeside 7 = .ok (.arraylength, 1) := dk_o190 (by decide +kernel)
theorem dX5_openBeside_8 : decode cX5_openBeside 8 = .ok (.istore 4, 2) := dk_o54 (by decide +kernel)
theorem dX5_openBeside_10 : decode cX5_openBeside 10 = .ok (.iconst 0, 1) := dk_o3 (by decide +kernel)
theorem dX5_openBeside_11 : decode cX5_openBeside 11 = .ok (.istore 5, 2) := dk_o54 (by decide +kernel)
theorem dX5_openBeside_13 : decode cX5_openBeside 13 = .ok (.iload 5, 2) := dk_o21 (by decide +kernel)
theorem dX5_openBeside_15 : decode cX5_openBeside 15 = .ok (.iload 4, 2) := dk_o21 (by decide +kernel)
theorem dX5_openBeside_17 : decode cX5_openBeside 17 = .ok (.if_icmp .ge 29, 3) := dk_o162 (by decide +kernel)
theorem dX5_openBeside_20 : decode cX5_openBeside 20 = .ok (.aload_n 3, 1) := dk_o45 (by decide +kernel)
theorem dX5_openBeside_21 : decode cX5_openBeside 21 = .ok (.iload 5, 2) := dk_o21 (by decide +kernel)
theorem dX5_openBeside_23 : decode cX5_openBeside 23 = .ok (.iaload, 1) := dk_o46 (by decide +kernel)
theorem dX5_openBeside_24 : decode cX5_openBeside 24 = .ok (.istore 6, 2) := dk_o54 (by decide +kernel)
theorem dX5_openBeside_26 : decode cX5_openBeside 26 = .ok (.aload_n 0, 1) := dk_o42 (by decide +kernel)
theorem dX5_openBeside_27 : decode cX5_openBeside 27 = .ok (.iload_n 1, 1) := dk_o27 (by decide +kernel)
theorem dX5_openBeside_28 : decode cX5_openBeside 28 = .ok (.iload 6, 2) := dk_o21 (by decide +kernel)
theorem dX5_openBeside_30 : decode cX5_openBeside 30 = .ok (.iadd, 1) := dk_o96 (by decide +kernel)
theorem dX5_openBeside_31 : decode cX5_openBeside 31 = .ok (.invokevirtual 76, 3) := dk_o182 (by decide +kernel)
theorem dX5_openBeside_34 : decode cX5_openBeside 34 = .ok (.ifCond .eq 6, 3) := dk_o153 (by decide +kernel)
theorem dX5_openBeside_37 : decode cX5_openBeside 37 = .ok (.iinc 2 1, 3) := dk_o132 (by decide +kernel)
theorem dX5_openBeside_40 : decode cX5_openBeside 40 = .ok (.iinc 5 1, 3) := dk_o132 (by decide +kernel)
theorem dX5_openBeside_43 : decode cX5_openBeside 43 = .ok (.goto (-30), 3) := dk_o167 (by decide +kernel)
theorem dX5_openBeside_46 : decode cX5_openBeside 46 = .ok (.iload_n 2, 1) := dk_o28 (by decide +kernel)
theorem dX5_openBeside_47 : decode cX5_openBeside 47 = .ok (.ireturn, 1) := dk_o172 (by decide +kernel)
theorem dX5_canBeDug_0 : decode cX5_canBeDug 0 = .ok (.aload_n 0, 1) := dk_o42 (by decide +kernel)
theorem dX5_canBeDug_1 : decode cX5_canBeDug 1 = .ok (.iload_n 1, 1) := dk_o27 (by decide +kernel)
theorem dX5_canBeDug_2 : decode cX5_canBeDug 2 = .ok (.invokevirtual 69, 3) := dk_o182 (by decide +kernel)
theorem dX5_canBeDug_5 : decode cX5_canBeDug 5 = .ok (.ifCond .eq 15, 3) := dk_o153 (by decide +kernel)
theorem dX5_canBeDug_8 : decode cX5_canBeDug 8 = .ok (.aload_n 0, 1) := dk_o42 (by decide +kernel)
theorem dX5_canBeDug_9 : decode cX5_canBeDug 9 = .ok (.iload_n 1, 1) := dk_o27 (by decide +kernel)
theorem dX5_canBeDug_10 : decode cX5_canBeDug 10 = .ok (.invokevirtual 79, 3) := dk_o182 (by decide +kernel)
theorem dX5_canBeDug_13 : decode cX5_canBeDug 13 = .ok (.ifCond .le 7, 3) := dk_o158 (by decide +kernel)
theorem dX5_canBeDug_16 : decode cX5_canBeDug 16 = .ok (.iconst 1, 1) := dk_o4 (by decide +kernel)
theorem dX5_canBeDug_17 : decode cX5_canBeDug 17 = .ok (.goto 4, 3) := dk_o167 (by decide +kernel)
theorem dX5_canBeDug_20 : decode cX5_canBeDug 20 = .ok (.iconst 0, 1) := dk_o3 (by decide +kernel)
theorem dX5_canBeDug_21 : decode cX5_canBeDug 21 = .ok (.ireturn, 1) := dk_o172 (by decide +kernel)
theorem dX5_addTub_0 : decode cX5_addTub 0 = .ok (.aload_n 0, 1) := dk_o42 (by decide +kernel)
theorem dX5_addTub_1 : decode cX5_addTub 1 = .ok (.getfield 27, 3) := dk_o180 (by decide +kernel)
theorem dX5_addTub_4 : decode cX5_addTub 4 = .ok (.iload_n 1, 1) := dk_o27 (by decide +kernel)
theorem dX5_addTub_5 : decode cX5_addTub 5 = .ok (.bipush 99, 2) := dk_o16 (by decide +kernel)
theorem dX5_addTub_7 : decode cX5_addTub 7 = .ok (.aload_n 0, 1) := dk_o42 (by decide +kernel)
theorem dX5_addTub_8 : decode cX5_addTub 8 = .ok (.getfield 27, 3) := dk_o180 (by decide +kernel)
theorem dX5_addTub_11 : decode cX5_addTub 11 = .ok (.iload_n 1, 1) := dk_o27 (by decide +kernel)
theorem dX5_addTub_12 : decode cX5_addTub 12 = .ok (.iaload, 1) := dk_o46 (by decide +kernel)
theorem dX5_addTub_13 : decode cX5_addTub 13 = .ok (.iconst 1, 1) := dk_o4 (by decide +kernel)
theorem dX5_addTub_14 : decode cX5_addTub 14 = .ok (.iadd, 1) := dk_o96 (by decide +kernel)
theorem dX5_addTub_15 : decode cX5_addTub 15 = .ok (.invokestatic 83, 3) := dk_o184 (by decide +kernel)
theorem dX5_addTub_18 : decode cX5_addTub 18 = .ok (.iastore, 1) := dk_o79 (by decide +kernel)
theorem dX5_addTub_19 : decode cX5_addTub 19 = .ok (.return_, 1) := dk_o177 (by decide +kernel)
theorem dX5_tubsFrom_0 : decode cX5_tubsFrom 0 = .ok (.iconst 0, 1) := dk_o3 (by decide +kernel)
theorem dX5_tubsFrom_1 : decode cX5_tubsFrom 1 = .ok (.istore_n 2, 1) := dk_o61 (by decide +kernel)
theorem dX5_tubsFrom_2 : decode cX5_tubsFrom 2 = .ok (.iload_n 1, 1) := dk_o27 (by decide +kernel)
theorem dX5_tubsFrom_3 : decode cX5_tubsFrom 3 = .ok (.istore_n 3, 1) := dk_o62 (by decide +kernel)
theorem dX5_tubsFrom_4 : decode cX5_tubsFrom 4 = .ok (.iload_n 3, 1) := dk_o29 (by decide +kernel)
theorem dX5_tubsFrom_5 : decode cX5_tubsFrom 5 = .ok (.bipush 9, 2) := dk_o16 (by decide +kernel)
theorem dX5_tubsFrom_7 : decode cX5_tubsFrom 7 = .ok (.if_icmp .gt 18, 3) := dk_o163 (by decide +kernel)
theorem dX5_tubsFrom_10 : decode cX5_tubsFrom 10 = .ok (.iload_n 2, 1) := dk_o28 (by decide +kernel)
theorem dX5_tubsFrom_11 : decode cX5_tubsFrom 11 = .ok (.aload_n 0, 1) := dk_o42 (by decide +kernel)
theorem dX5_tubsFrom_12 : decode cX5_tubsFrom 12 = .ok (.getfield 27, 3) := dk_o180 (by decide +kernel)
theorem dX5_tubsFrom_15 : decode cX5_tubsFrom 15 = .ok (.iload_n 3, 1) := dk_o29 (by decide +kernel)
theorem dX5_tubsFrom_16 : decode cX5_tubsFrom 16 = .ok (.iaload, 1) := dk_o46 (by decide +kernel)
theorem dX5_tubsFrom_17 : decode cX5_tubsFrom 17 = .ok (.iadd, 1) := dk_o96 (by decide +kernel)
theorem dX5_tubsFrom_18 : decode cX5_tubsFrom 18 = .ok (.istore_n 2, 1) := dk_o61 (by decide +kernel)
theorem dX5_tubsFrom_19 : decode cX5_tubsFrom 19 = .ok (.iinc 3 1, 3) := dk_o132 (by decide +kernel)
theorem dX5_tubsFrom_22 : decode cX5_tubsFrom 22 = .ok (.goto (-18), 3) := dk_o167 (by decide +kernel)
theorem dX5_tubsFrom_25 : decode cX5_tubsFrom 25 = .ok (.iload_n 2, 1) := dk_o28 (by decide +kernel)
theorem dX5_tubsFrom_26 : decode cX5_tubsFrom 26 = .ok (.ireturn, 1) := dk_o172 (by decide +kernel)
theorem dX5_giveTubs_0 : decode cX5_giveTubs 0 = .ok (.iload_n 2, 1) := dk_o28 (by decide +kernel)
theorem dX5_giveTubs_1 : decode cX5_giveTubs 1 = .ok (.istore_n 3, 1) := dk_o62 (by decide +kernel)
theorem dX5_giveTubs_2 : decode cX5_giveTubs 2 = .ok (.iload_n 1, 1) := dk_o27 (by decide +kernel)
theorem dX5_giveTubs_3 : decode cX5_giveTubs 3 = .ok (.istore 4, 2) := dk_o54 (by decide +kernel)
theorem dX5_giveTubs_5 : decode cX5_giveTubs 5 = .ok (.iload 4, 2) := dk_o21 (by decide +kernel)
theorem dX5_giveTubs_7 : decode cX5_giveTubs 7 = .ok (.bipush 9, 2) := dk_o16 (by decide +kernel)
theorem dX5_giveTubs_9 : decode cX5_giveTubs 9 = .ok (.if_icmp .gt 39, 3) := dk_o163 (by decide +kernel)
theorem dX5_giveTubs_12 : decode cX5_giveTubs 12 = .ok (.iload_n 3, 1) := dk_o29 (by decide +kernel)
theorem dX5_giveTubs_13 : decode cX5_giveTubs 13 = .ok (.aload_n 0, 1) := dk_o42 (by decide +kernel)
theorem dX5_giveTubs_14 : decode cX5_giveTubs 14 = .ok (.getfield 27, 3) := dk_o180 (by decide +kernel)
theorem dX5_giveTubs_17 : decode cX5_giveTubs 17 = .ok (.iload 4, 2) := dk_o21 (by decide +kernel)
theorem dX5_giveTubs_19 : decode cX5_giveTubs 19 = .ok (.iaload, 1) := dk_o46 (by decide +kernel)
theorem dX5_giveTubs_20 : decode cX5_giveTubs 20 = .ok (.invokestatic 83, 3) := dk_o184 (by decide +kernel)
theorem dX5_giveTubs_23 : decode cX5_giveTubs 23 = .ok (.istore 5, 2) := dk_o54 (by decide +kernel)
theorem dX5_giveTubs_25 : decode cX5_giveTubs 25 = .ok (.aload_n 0, 1) := dk_o42 (by decide +kernel)
theorem dX5_giveTubs_26 : decode cX5_giveTubs 26 = .ok (.getfield 27, 3) := dk_o180 (by decide +kernel)
theorem dX5_giveTubs_29 : decode cX5_giveTubs 29 = .ok (.iload 4, 2) := dk_o21 (by decide +kernel)
theorem dX5_giveTubs_31 : decode cX5_giveTubs 31 = .ok (.dup2, 1) := dk_o92 (by decide +kernel)
theorem dX5_giveTubs_32 : decode cX5_giveTubs 32 = .ok (.iaload, 1) := dk_o46 (by decide +kernel)
theorem dX5_giveTubs_33 : decode cX5_giveTubs 33 = .ok (.iload 5, 2) := dk_o21 (by decide +kernel)
theorem dX5_giveTubs_35 : decode cX5_giveTubs 35 = .ok (.isub, 1) := dk_o100 (by decide +kernel)
theorem dX5_giveTubs_36 : decode cX5_giveTubs 36 = .ok (.iastore, 1) := dk_o79 (by decide +kernel)
theorem dX5_giveTubs_37 : decode cX5_giveTubs 37 = .ok (.iload_n 3, 1) := dk_o29 (by decide +kernel)
theorem dX5_giveTubs_38 : decode cX5_giveTubs 38 = .ok (.iload 5, 2) := dk_o21 (by decide +kernel)
theorem dX5_giveTubs_40 : decode cX5_giveTubs 40 = .ok (.isub, 1) := dk_o100 (by decide +kernel)
theorem dX5_giveTubs_41 : decode cX5_giveTubs 41 = .ok (.istore_n 3, 1) := dk_o62 (by decide +kernel)
theorem dX5_giveTubs_42 : decode cX5_giveTubs 42 = .ok (.iinc 4 1, 3) := dk_o132 (by decide +kernel)
theorem dX5_giveTubs_45 : decode cX5_giveTubs 45 = .ok (.goto (-40), 3) := dk_o167 (by decide +kernel)
theorem dX5_giveTubs_48 : decode cX5_giveTubs 48 = .ok (.return_, 1) := dk_o177 (by decide +kernel)
theorem dX5_tubGrades_0 : decode cX5_tubGrades 0 = .ok (.iconst 0, 1) := dk_o3 (by decide +kernel)
theorem dX5_tubGrades_1 : decode cX5_tubGrades 1 = .ok (.istore_n 1, 1) := dk_o60 (by decide +kernel)
theorem dX5_tubGrades_2 : decode cX5_tubGrades 2 = .ok (.iconst 0, 1) := dk_o3 (by decide +kernel)
theorem dX5_tubGrades_3 : decode cX5_tubGrades 3 = .ok (.istore_n 2, 1) := dk_o61 (by decide +kernel)
theorem dX5_tubGrades_4 : decode cX5_tubGrades 4 = .ok (.iload_n 2, 1) := dk_o28 (by decide +kernel)
theorem dX5_tubGrades_5 : decode cX5_tubGrades 5 = .ok (.bipush 9, 2) := dk_o16 (by decide +kernel)
theorem dX5_tubGrades_7 : decode cX5_tubGrades 7 = .ok (.if_icmp .gt 20, 3) := dk_o163 (by decide +kernel)
theorem dX5_tubGrades_10 : decode cX5_tubGrades 10 = .ok (.iload_n 1, 1) := dk_o27 (by decide +kernel)
theorem dX5_tubGrades_11 : decode cX5_tubGrades 11 = .ok (.iload_n 2, 1) := dk_o28 (by decide +kernel)
theorem dX5_tubGrades_12 : decode cX5_tubGrades 12 = .ok (.aload_n 0, 1) := dk_o42 (by decide +kernel)
theorem dX5_tubGrades_13 : decode cX5_tubGrades 13 = .ok (.getfield 27, 3) := dk_o180 (by decide +kernel)
theorem dX5_tubGrades_16 : decode cX5_tubGrades 16 = .ok (.iload_n 2, 1) := dk_o28 (by decide +kernel)
theorem dX5_tubGrades_17 : decode cX5_tubGrades 17 = .ok (.iaload, 1) := dk_o46 (by decide +kernel)
theorem dX5_tubGrades_18 : decode cX5_tubGrades 18 = .ok (.imul, 1) := dk_o104 (by decide +kernel)
theorem dX5_tubGrades_19 : decode cX5_tubGrades 19 = .ok (.iadd, 1) := dk_o96 (by decide +kernel)
theorem dX5_tubGrades_20 : decode cX5_tubGrades 20 = .ok (.istore_n 1, 1) := dk_o60 (by decide +kernel)
theorem dX5_tubGrades_21 : decode cX5_tubGrades 21 = .ok (.iinc 2 1, 3) := dk_o132 (by decide +kernel)
theorem dX5_tubGrades_24 : decode cX5_tubGrades 24 = .ok (.goto (-20), 3) := dk_o167 (by decide +kernel)
theorem dX5_tubGrades_27 : decode cX5_tubGrades 27 = .ok (.iload_n 1, 1) := dk_o27 (by decide +kernel)
theorem dX5_tubGrades_28 : decode cX5_tubGrades 28 = .ok (.ireturn, 1) := dk_o172 (by decide +kernel)
theorem dX5_wholeWorth_0 : decode cX5_wholeWorth 0 = .ok (.aload_n 0, 1) := dk_o42 (by decide +kernel)
theorem dX5_wholeWorth_1 : decode cX5_wholeWorth 1 = .ok (.invokevirtual 89, 3) := dk_o182 (by decide +kernel)
theorem dX5_wholeWorth_4 : decode cX5_wholeWorth 4 = .ok (.istore_n 1, 1) := dk_o60 (by decide +kernel)
theorem dX5_wholeWorth_5 : decode cX5_wholeWorth 5 = .ok (.iconst 0, 1) := dk_o3 (by decide +kernel)
theorem dX5_wholeWorth_6 : decode cX5_wholeWorth 6 = .ok (.istore_n 2, 1) := dk_o61 (by decide +kernel)
theorem dX5_wholeWorth_7 : decode cX5_wholeWorth 7 = .ok (.iload_n 2, 1) := dk_o28 (by decide +kernel)
theorem dX5_wholeWorth_8 : decode cX5_wholeWorth 8 = .ok (.bipush 72, 2) := dk_o16 (by decide +kernel)
theorem dX5_wholeWorth_10 : decode cX5_wholeWorth 10 = .ok (.if_icmp .ge 26, 3) := dk_o162 (by decide +kernel)
theorem dX5_wholeWorth_13 : decode cX5_wholeWorth 13 = .ok (.aload_n 0, 1) := dk_o42 (by decide +kernel)
theorem dX5_wholeWorth_14 : decode cX5_wholeWorth 14 = .ok (.iload_n 2, 1) := dk_o28 (by decide +kernel)
theorem dX5_wholeWorth_15 : decode cX5_wholeWorth 15 = .ok (.invokevirtual 69, 3) := dk_o182 (by decide +kernel)
theorem dX5_wholeWorth_18 : decode cX5_wholeWorth 18 = .ok (.ifCond .eq 12, 3) := dk_o153 (by decide +kernel)
theorem dX5_wholeWorth_21 : decode cX5_wholeWorth 21 = .ok (.iload_n 1, 1) := dk_o27 (by decide +kernel)
theorem dX5_wholeWorth_22 : decode cX5_wholeWorth 22 = .ok (.aload_n 0, 1) := dk_o42 (by decide +kernel)
theorem dX5_wholeWorth_23 : decode cX5_wholeWorth 23 = .ok (.getfield 9, 3) := dk_o180 (by decide +kernel)
theorem dX5_wholeWorth_26 : decode cX5_wholeWorth 26 = .ok (.iload_n 2, 1) := dk_o28 (by decide +kernel)
theorem dX5_wholeWorth_27 : decode cX5_wholeWorth 27 = .ok (.iaload, 1) := dk_o46 (by decide +kernel)
theorem dX5_wholeWorth_28 : decode cX5_wholeWorth 28 = .ok (.iadd, 1) := dk_o96 (by decide +kernel)
theorem dX5_wholeWorth_29 : decode cX5_wholeWorth 29 = .ok (.istore_n 1, 1) := dk_o60 (by decide +kernel)
theorem dX5_wholeWorth_30 : decode cX5_wholeWorth 30 = .ok (.iinc 2 1, 3) := dk_o132 (by decide +kernel)
theorem dX5_wholeWorth_33 : decode cX5_wholeWorth 33 = .ok (.goto (-26), 3) := dk_o167 (by decide +kernel)
theorem dX5_wholeWorth_36 : decode cX5_wholeWorth 36 = .ok (.iload_n 1, 1) := dk_o27 (by decide +kernel)
theorem dX5_wholeWorth_37 : decode cX5_wholeWorth 37 = .ok (.ireturn, 1) := dk_o172 (by decide +kernel)
theorem dX5_changeRows_0 : decode cX5_changeRows 0 = .ok (.aload_n 0, 1) := dk_o42 (by decide +kernel)
theorem dX5_changeRows_1 : decode cX5_changeRows 1 = .ok (.getfield 18, 3) := dk_o180 (by decide +kernel)
theorem dX5_changeRows_4 : decode cX5_changeRows 4 = .ok (.iload_n 1, 1) := dk_o27 (by decide +kernel)
theorem dX5_changeRows_5 : decode cX5_changeRows 5 = .ok (.iaload, 1) := dk_o46 (by decide +kernel)
theorem dX5_changeRows_6 : decode cX5_changeRows 6 = .ok (.istore_n 3, 1) := dk_o62 (by decide +kernel)
theorem dX5_changeRows_7 : decode cX5_changeRows 7 = .ok (.aload_n 0, 1) := dk_o42 (by decide +kernel)
theorem dX5_changeRows_8 : decode cX5_changeRows 8 = .ok (.getfield 21, 3) := dk_o180 (by decide +kernel)
theorem dX5_changeRows_11 : decode cX5_changeRows 11 = .ok (.iload_n 1, 1) := dk_o27 (by decide +kernel)
theorem dX5_changeRows_12 : decode cX5_changeRows 12 = .ok (.iaload, 1) := dk_o46 (by decide +kernel)
theorem dX5_changeRows_13 : decode cX5_changeRows 13 = .ok (.istore 4, 2) := dk_o54 (by decide +kernel)
theorem dX5_changeRows_15 : decode cX5_changeRows 15 = .ok (.aload_n 0, 1) := dk_o42 (by decide +kernel)
theorem dX5_changeRows_16 : decode cX5_changeRows 16 = .ok (.getfield 18, 3) := dk_o180 (by decide +kernel)
theorem dX5_changeRows_19 : decode cX5_changeRows 19 = .ok (.iload_n 1, 1) := dk_o27 (by decide +kernel)
theorem dX5_changeRows_20 : decode cX5_changeRows 20 = .ok (.aload_n 0, 1) := dk_o42 (by decide +kernel)
theorem dX5_changeRows_21 : decode cX5_changeRows 21 = .ok (.getfield 18, 3) := dk_o180 (by decide +kernel)
theorem dX5_changeRows_24 : decode cX5_changeRows 24 = .ok (.iload_n 2, 1) := dk_o28 (by decide +kernel)
theorem dX5_changeRows_25 : decode cX5_changeRows 25 = .ok (.iaload, 1) := dk_o46 (by decide +kernel)
theorem dX5_changeRows_26 : decode cX5_changeRows 26 = .ok (.iastore, 1) := dk_o79 (by decide +kernel)
theorem dX5_changeRows_27 : decode cX5_changeRows 27 = .ok (.aload_n 0, 1) := dk_o42 (by decide +kernel)
theorem dX5_changeRows_28 : decode cX5_changeRows 28 = .ok (.getfield 21, 3) := dk_o180 (by decide +kernel)
theorem dX5_changeRows_31 : decode cX5_changeRows 31 = .ok (.iload_n 1, 1) := dk_o27 (by decide +kernel)
theorem dX5_changeRows_32 : decode cX5_changeRows 32 = .ok (.aload_n 0, 1) := dk_o42 (by decide +kernel)
theorem dX5_changeRows_33 : decode cX5_changeRows 33 = .ok (.getfield 21, 3) := dk_o180 (by decide +kernel)
theorem dX5_changeRows_36 : decode cX5_changeRows 36 = .ok (.iload_n 2, 1) := dk_o28 (by decide +kernel)
theorem dX5_changeRows_37 : decode cX5_changeRows 37 = .ok (.iaload, 1) := dk_o46 (by decide +kernel)
theorem dX5_changeRows_38 : decode cX5_changeRows 38 = .ok (.iastore, 1) := dk_o79 (by decide +kernel)
theorem dX5_changeRows_39 : decode cX5_changeRows 39 = .ok (.aload_n 0, 1) := dk_o42 (by decide +kernel)
theorem dX5_changeRows_40 : decode cX5_changeRows 40 = .ok (.getfield 18, 3) := dk_o180 (by decide +kernel)
theorem dX5_changeRows_43 : decode cX5_changeRows 43 = .ok (.iload_n 2, 1) := dk_o28 (by decide +kernel)
theorem dX5_changeRows_44 : decode cX5_changeRows 44 = .ok (.iload_n 3, 1) := dk_o29 (by decide +kernel)
theorem dX5_changeRows_45 : decode cX5_changeRows 45 = .ok (.iastore, 1) := dk_o79 (by decide +kernel)
theorem dX5_changeRows_46 : decode cX5_changeRows 46 = .ok (.aload_n 0, 1) := dk_o42 (by decide +kernel)
theorem dX5_changeRows_47 : decode cX5_changeRows 47 = .ok (.getfield 21, 3) := dk_o180 (by decide +kernel)
theorem dX5_changeRows_50 : decode cX5_changeRows 50 = .ok (.iload_n 2, 1) := dk_o28 (by decide +kernel)
theorem dX5_changeRows_51 : decode cX5_changeRows 51 = .ok (.iload 4, 2) := dk_o21 (by decide +kernel)
theorem dX5_changeRows_53 : decode cX5_changeRows 53 = .ok (.iastore, 1) := dk_o79 (by decide +kernel)
theorem dX5_changeRows_54 : decode cX5_changeRows 54 = .ok (.return_, 1) := dk_o177 (by decide +kernel)
theorem dX8_put_0 : decode cX8_put 0 = .ok (.bipush 24, 2) := dk_o16 (by decide +kernel)
theorem dX8_put_2 : decode cX8_put 2 = .ok (.istore_n 2, 1) := dk_o61 (by decide +kernel)
theorem dX8_put_3 : decode cX8_put 3 = .ok (.iload_n 2, 1) := dk_o28 (by decide +kernel)
theorem dX8_put_4 : decode cX8_put 4 = .ok (.ifCond .lt 45, 3) := dk_o155 (by decide +kernel)
theorem dX8_put_7 : decode cX8_put 7 = .ok (.aload_n 0, 1) := dk_o42 (by decide +kernel)
theorem dX8_put_8 : decode cX8_put 8 = .ok (.getfield 15, 3) := dk_o180 (by decide +kernel)
theorem dX8_put_11 : decode cX8_put 11 = .ok (.sipush 1600, 3) := dk_o17 (by decide +kernel)
theorem dX8_put_14 : decode cX8_put 14 = .ok (.if_icmp .ge 35, 3) := dk_o162 (by decide +kernel)
theorem dX8_put_17 : decode cX8_put 17 = .ok (.aload_n 0, 1) := dk_o42 (by decide +kernel)
theorem dX8_put_18 : decode cX8_put 18 = .ok (.getfield 9, 3) := dk_o180 (by decide +kernel)
theorem dX8_put_21 : decode cX8_put 21 = .ok (.aload_n 0, 1) := dk_o42 (by decide +kernel)
theorem dX8_put_22 : decode cX8_put 22 = .ok (.getfield 15, 3) := dk_o180 (by decide +kernel)
theorem dX8_put_25 : decode cX8_put 25 = .ok (.iload_n 1, 1) := dk_o27 (by decide +kernel)
theorem dX8_put_26 : decode cX8_put 26 = .ok (.iload_n 2, 1) := dk_o28 (by decide +kernel)
theorem dX8_put_27 : decode cX8_put 27 = .ok (.ishr, 1) := dk_o122 (by decide +kernel)
theorem dX8_put_28 : decode cX8_put 28 = .ok (.sipush 255, 3) := dk_o17 (by decide +kernel)
theorem dX8_put_31 : decode cX8_put 31 = .ok (.iand, 1) := dk_o126 (by decide +kernel)
theorem dX8_put_32 : decode cX8_put 32 = .ok (.iastore, 1) := dk_o79 (by decide +kernel)
theorem dX8_put_33 : decode cX8_put 33 = .ok (.aload_n 0, 1) := dk_o42 (by decide +kernel)
theorem dX8_put_34 : decode cX8_put 34 = .ok (.dup, 1) := dk_o89 (by decide +kernel)
theorem dX8_put_35 : decode cX8_put 35 = .ok (.getfield 15, 3) := dk_o180 (by decide +kernel)
theorem dX8_put_38 : decode cX8_put 38 = .ok (.iconst 1, 1) := dk_o4 (by decide +kernel)
theorem dX8_put_39 : decode cX8_put 39 = .ok (.iadd, 1) := dk_o96 (by decide +kernel)
theorem dX8_put_40 : decode cX8_put 40 = .ok (.putfield 15, 3) := dk_o181 (by decide +kernel)
theorem dX8_put_43 : decode cX8_put 43 = .ok (.iinc 2 (-8), 3) := dk_o132 (by decide +kernel)
theorem dX8_put_46 : decode cX8_put 46 = .ok (.goto (-43), 3) := dk_o167 (by decide +kernel)
theorem dX8_put_49 : decode cX8_put 49 = .ok (.return_, 1) := dk_o177 (by decide +kernel)
theorem wB_486 : Cond.fieldLink RX8 15 "DarkMine$Tape" "length" "I" ∈ dgB := List.mem_filter.mpr ⟨tbl_1 _ (List.mem_of_getElem? (i := 41) (by decide +kernel)), by decide +kernel⟩
theorem wB_487 : Cond.fieldLink RX8 9 "DarkMine$Tape" "bytes" "[I" ∈ dgB := List.mem_filter.mpr ⟨tbl_1 _ (List.mem_of_getElem? (i := 36) (by decide +kernel)), by decide +kernel⟩
theorem wB_488 : Cond.fieldLink RX5 9 "DarkMine$Pit" "cells" "[I" ∈ dgB := List.mem_filter.mpr ⟨tbl_1 _ (List.mem_of_getElem? (i := 65) (by decide +kernel)), by decide +kernel⟩
theorem wB_489 : Cond.code yX5_isSolid cX5_isSolid 2 (some .boolean) ∈ dgB := List.mem_filter.mpr ⟨tbl_4 _ (List.mem_of_getElem? (i := 182) rfl), rfl⟩
theorem wB_490 : Cond.methodLink RX5 69 yX5_isSolid ∈ dgB := List.mem_filter.mpr ⟨tbl_4 _ (List.mem_of_getElem? (i := 208) (by decide +kernel)), by decide +kernel⟩
theorem wB_491 : Cond.instanceMethod yX5_isSolid ∈ dgB := List.mem_filter.mpr ⟨tbl_4 _ (List.mem_of_getElem? (i := 180) (by decide +kernel)), by decide +kernel⟩
theorem wB_492 : Cond.selects RX5 yX5_isSolid yX5_isSolid ∈ dgB := List.mem_filter.mpr ⟨tbl_4 _ (List.mem_of_getElem? (i := 181) (by decide +kernel)), by decide +kernel⟩
theorem wB_493 : Cond.initialized RX5 ∈ dgB := List.mem_filter.mpr ⟨tbl_1 _ (List.mem_of_getElem? (i := 3) (by decide +kernel)), by decide +kernel⟩
theorem wB_494 : Cond.code yX5_isOpen cX5_isOpen 2 (some .boolean) ∈ dgB := List.mem_filter.mpr ⟨tbl_4 _ (List.mem_of_getElem? (i := 147) rfl), rfl⟩
theorem wB_495 : Cond.methodLink RX5 76 yX5_isOpen ∈ dgB := List.mem_filter.mpr ⟨tbl_4 _ (List.mem_of_getElem? (i := 239) (by decide +kernel)), by decide +kernel⟩
theorem wB_496 : Cond.instanceMethod yX5_isOpen ∈ dgB := List.mem_filter.mpr ⟨tbl_4 _ (List.mem_of_getElem? (i := 145) (by decide +kernel)), by decide +kernel⟩
theorem wB_497 : Cond.selects RX5 yX5_isOpen yX5_isOpen ∈ dgB := List.mem_filter.mpr ⟨tbl_4 _ (List.mem_of_getElem? (i := 146) (by decide +kernel)), by decide +kernel⟩
theorem wB_498 : Cond.code yX5_openBeside cX5_openBeside 7 (some .int) ∈ dgB := List.mem_filter.mpr ⟨tbl_4 _ (List.mem_of_getElem? (i := 237) rfl), rfl⟩
theorem wB_499 : Cond.methodLink RX5 79 yX5_openBeside ∈ dgB := List.mem_filter.mpr ⟨tbl_4 _ (List.mem_of_getElem? (i := 234) (by decide +kernel)), by decide +kernel⟩
theorem wB_500 : Cond.instanceMethod yX5_openBeside ∈ dgB := List.mem_filter.mpr ⟨tbl_4 _ (List.mem_of_getElem? (i := 235) (by decide +kernel)), by decide +kernel⟩
theorem wB_501 : Cond.selects RX5 yX5_openBeside yX5_openBeside ∈ dgB := List.mem_filter.mpr ⟨tbl_4 _ (List.mem_of_getElem? (i := 236) (by decide +kernel)), by decide +kernel⟩
theorem wB_502 : Cond.fieldLink RX5 27 "DarkMine$Pit" "tubCounts" "[I" ∈ dgB := List.mem_filter.mpr ⟨tbl_1 _ (List.mem_of_getElem? (i := 86) (by decide +kernel)), by decide +kernel⟩
theorem wB_503 : Cond.methodLink RX5 83 Lib.Math.min.name ∈ dgB := List.mem_filter.mpr ⟨tbl_5 _ (List.mem_of_getElem? (i := 114) (by decide +kernel)), by decide +kernel⟩
theorem wB_504 : Cond.static Lib.Math.min.name ∈ dgB := List.mem_filter.mpr ⟨tbl_5 _ (List.mem_of_getElem? (i := 105) (by decide +kernel)), by decide +kernel⟩
theorem wB_505 : Cond.initialized "java/lang/Math" ∈ dgB := List.mem_filter.mpr ⟨tbl_1 _ (List.mem_of_getElem? (i := 20) (by decide +kernel)), by decide +kernel⟩
theorem wB_506 : Cond.code Lib.Math.min.name Lib.Math.min.code 2 (some .int) ∈ dgB := List.mem_filter.mpr ⟨tbl_5 _ (List.mem_of_getElem? (i := 106) rfl), rfl⟩
theorem wB_507 : Cond.code yX5_tubGrades cX5_tubGrades 3 (some .int) ∈ dgB := List.mem_filter.mpr ⟨tbl_4 _ (List.mem_of_getElem? (i := 207) rfl), rfl⟩
theorem wB_508 : Cond.methodLink RX5 89 yX5_tubGrades ∈ dgB := List.mem_filter.mpr ⟨tbl_4 _ (List.mem_of_getElem? (i := 204) (by decide +kernel)), by decide +kernel⟩
theorem wB_509 : Cond.instanceMethod yX5_tubGrades ∈ dgB := List.mem_filter.mpr ⟨tbl_4 _ (List.mem_of_getElem? (i := 205) (by decide +kernel)), by decide +kernel⟩
theorem wB_510 : Cond.selects RX5 yX5_tubGrades yX5_tubGrades ∈ dgB := List.mem_filter.mpr ⟨tbl_4 _ (List.mem_of_getElem? (i := 206) (by decide +kernel)), by decide +kernel⟩
theorem wB_511 : Cond.fieldLink RX5 18 "DarkMine$Pit" "planMiners" "[I" ∈ dgB := List.mem_filter.mpr ⟨tbl_1 _ (List.mem_of_getElem? (i := 75) (by decide +kernel)), by decide +kernel⟩
theorem wB_512 : Cond.fieldLink RX5 21 "DarkMine$Pit" "planPlaces" "[I" ∈ dgB := List.mem_filter.mpr ⟨tbl_1 _ (List.mem_of_getElem? (i := 79) (by decide +kernel)), by decide +kernel⟩
theorem wB_513 : Cond.fieldLink RX5 30 "DarkMine$Pit" "shift" "I" ∈ dgB := List.mem_filter.mpr ⟨tbl_1 _ (List.mem_of_getElem? (i := 57) (by decide +kernel)), by decide +kernel⟩
theorem wB_514 : Cond.fieldLink RX5 34 "DarkMine$Pit" "purse" "I" ∈ dgB := List.mem_filter.mpr ⟨tbl_1 _ (List.mem_of_getElem? (i := 62) (by decide +kernel)), by decide +kernel⟩
theorem wB_515 : Cond.methodLink RX5 54 arraycopyName ∈ dgB := List.mem_filter.mpr ⟨tbl_3 _ (List.mem_of_getElem? (i := 41) (by decide +kernel)), by decide +kernel⟩
theorem wB_516 : Cond.native arraycopyName ∈ dgB := List.mem_filter.mpr ⟨tbl_3 _ (List.mem_of_getElem? (i := 43) (by decide +kernel)), by decide +kernel⟩
theorem wB_517 : Cond.static arraycopyName ∈ dgB := List.mem_filter.mpr ⟨tbl_3 _ (List.mem_of_getElem? (i := 42) (by decide +kernel)), by decide +kernel⟩
theorem wB_518 : Cond.initialized "java/lang/System" ∈ dgB := List.mem_filter.mpr ⟨tbl_1 _ (List.mem_of_getElem? (i := 14) (by decide +kernel)), by decide +kernel⟩
theorem wB_519 : Cond.fieldLink RX5 15 "DarkMine$Pit" "hurts" "[I" ∈ dgB := List.mem_filter.mpr ⟨tbl_1 _ (List.mem_of_getElem? (i := 71) (by decide +kernel)), by decide +kernel⟩
theorem wB_520 : Cond.fieldLink RX5 24 "DarkMine$Pit" "sold" "[I" ∈ dgB := List.mem_filter.mpr ⟨tbl_1 _ (List.mem_of_getElem? (i := 83) (by decide +kernel)), by decide +kernel⟩
theorem wB_521 : Cond.methodLink RX5 37 yJ7_fill_53178 ∈ dgB := List.mem_filter.mpr ⟨tbl_3 _ (List.mem_of_getElem? (i := 38) (by decide +kernel)), by decide +kernel⟩
theorem wB_522 : Cond.fieldLink RX5 43 "DarkMine$Ground" "rows" "I" ∈ dgB := List.mem_filter.mpr ⟨tbl_1 _ (List.mem_of_getElem? (i := 182) (by decide +kernel)), by decide +kernel⟩
theorem wB_523 : Cond.fieldLink RX5 48 "DarkMine$Ground" "grades" "[I" ∈ dgB := List.mem_filter.mpr ⟨tbl_1 _ (List.mem_of_getElem? (i := 203) (by decide +kernel)), by decide +kernel⟩
theorem wB_524 : Cond.fieldLink RX5 51 "DarkMine$Ground" "columns" "I" ∈ dgB := List.mem_filter.mpr ⟨tbl_1 _ (List.mem_of_getElem? (i := 176) (by decide +kernel)), by decide +kernel⟩
theorem wB_525 : Cond.code yX2_hasSeam cX2_hasSeam 1 (some .boolean) ∈ dgB := List.mem_filter.mpr ⟨tbl_3 _ (List.mem_of_getElem? (i := 47) rfl), rfl⟩
theorem wB_526 : Cond.methodLink RX5 60 yX2_hasSeam ∈ dgB := List.mem_filter.mpr ⟨tbl_3 _ (List.mem_of_getElem? (i := 44) (by decide +kernel)), by decide +kernel⟩
theorem wB_527 : Cond.instanceMethod yX2_hasSeam ∈ dgB := List.mem_filter.mpr ⟨tbl_3 _ (List.mem_of_getElem? (i := 45) (by decide +kernel)), by decide +kernel⟩
theorem wB_528 : Cond.selects RX2 yX2_hasSeam yX2_hasSeam ∈ dgB := List.mem_filter.mpr ⟨tbl_3 _ (List.mem_of_getElem? (i := 46) (by decide +kernel)), by decide +kernel⟩
theorem wB_529 : Cond.fieldLink RX5 64 "DarkMine$Ground" "shaftPlace" "I" ∈ dgB := List.mem_filter.mpr ⟨tbl_1 _ (List.mem_of_getElem? (i := 188) (by decide +kernel)), by decide +kernel⟩
theorem wB_530 : Cond.fieldLink RX5 67 "DarkMine$Ground" "planMiners" "[I" ∈ dgB := List.mem_filter.mpr ⟨tbl_1 _ (List.mem_of_getElem? (i := 219) (by decide +kernel)), by decide +kernel⟩
theorem wB_531 : Cond.fieldLink RX5 68 "DarkMine$Ground" "planPlaces" "[I" ∈ dgB := List.mem_filter.mpr ⟨tbl_1 _ (List.mem_of_getElem? (i := 222) (by decide +kernel)), by decide +kernel⟩
noncomputable def F_t_put_B1 (a1 : Int32) : (Int32 × Int32 × dg_S) → (Int32 × Int32 × dg_S) ⊕ (dg_S) := fun w9 => match w9 with | (x_20, x_21, S_22) => (if x_20 < (0 : Int32) then (Sum.inr ((S_22))) else (if (1600 : Int32) ≤ x_21 then (Sum.inr ((S_22))) else let x_26 : Int32 := a1 >>> (x_20 &&& 31); let x_27 : Int32 := x_26 &&& (255 : Int32); let S_29 : dg_S := dg_uf S_22 2 (upd (S_22.2.1 2) (x_21 : Int32).toNatClampNeg x_27); let x_30 : Int32 := x_21 + (1 : Int32); let S_31 : dg_S := dg_uF S_29 1 1 (.int x_30); let x_32 : Int32 := x_20 + (-8); (Sum.inl (x_32, x_30, S_31))))
noncomputable def F_t_put (o : Nat) (S : dg_S) (a1 : Int32) : dg_S := let t0 : Int32 := zI S 1 1; (lp (F_t_put_B1 a1) S ((((24 : Int32)).toInt - (-9)).toNat + 1) ((24 : Int32), t0, S))
theorem F_t_put_p0 {a1 : Int32} {x_20 : Int32} {x_21 : Int32} {S_22 : dg_S} (h0 : x_20 < (0 : Int32)) : (F_t_put_B1 a1) (x_20, x_21, S_22) = Sum.inr (S_22) := (Eq.trans (if_pos h0) rfl)
theorem F_t_put_p1 {a1 : Int32} {x_20 : Int32} {x_21 : Int32} {S_22 : dg_S} (h0 : ¬ (x_20 < (0 : Int32))) (h1 : (1600 : Int32) ≤ x_21) : (F_t_put_B1 a1) (x_20, x_21, S_22) = Sum.inr (S_22) := (Eq.trans (if_neg h0) (Eq.trans (if_pos h1) rfl))
theorem F_t_put_p2 {a1 : Int32} {x_20 : Int32} {x_21 : Int32} {S_22 : dg_S} {x_32 : Int32} {x_30 : Int32} {S_31 : dg_S} {x_26 : Int32} {x_27 : Int32} {S_29 : dg_S} (h0 : ¬ (x_20 < (0 : Int32))) (h1 : ¬ ((1600 : Int32) ≤ x_21)) (h2 : x_26 = a1 >>> (x_20 &&& 31)) (h3 : x_27 = x_26 &&& (255 : Int32)) (h4 : S_29 = dg_uf S_22 2 (upd (S_22.2.1 2) (x_21 : Int32).toNatClampNeg x_27)) (h5 : x_30 = x_21 + (1 : Int32)) (h6 : S_31 = dg_uF S_29 1 1 (.int x_30)) (h7 : x_32 = x_20 + (-8)) : (F_t_put_B1 a1) (x_20, x_21, S_22) = Sum.inl (x_32, x_30, S_31) := by
  replace h2 := Eq.symm h2
  subst h2
  replace h3 := Eq.symm h3
  subst h3
  replace h4 := Eq.symm h4
  subst h4
  replace h5 := Eq.symm h5
  subst h5
  replace h6 := Eq.symm h6
  subst h6
  replace h7 := Eq.symm h7
  subst h7
  exact (Eq.trans (if_neg h0) (Eq.trans (if_neg h1) rfl))
theorem F_t_put_p3 {o : Nat} {S : dg_S} {a1 : Int32} {t0 : Int32} (h0 : t0 = zI S 1 1) : F_t_put o S a1 = lp (F_t_put_B1 a1) S ((((24 : Int32)).toInt - (-9)).toNat + 1) ((24 : Int32), t0, S) := by
  replace h0 := Eq.symm h0
  subst h0
  exact rfl
set_option maxHeartbeats 8000000 in
set_option maxRecDepth 100000 in
theorem c_t_put (l : Launch) (g : Nat → ClassId) (D : va_G) (o : Nat) (S : dg_S) (a1 : Int32) (t0 : Int32) (f_t0 : S.1 1 1 = .int t0) (b_t0 : 0 ≤ (t0).toInt ∧ (t0).toInt ≤ 1600) (I : CX o S) (sz : Nat) : Met l yX8_put (bw yX8_put cX8_put 3 none) ({ frames := 1, cells := 0, slots := 0, locals := 32 } : Room) (dk_Pc g D (dg_w g shX o rfX S) sz [.ref (o + 1), .int a1]) (va_Qv (fun S' => CX o S' ∧ dg_sm shX [(1, 1)] [2] S S' ∧ (∃ y9 : Int32, S'.1 1 1 = .int y9 ∧ ((t0).toInt ≤ 1596 → (y9).toInt = (t0).toInt + 4)) ∧ ((t0).toInt ≤ 1596 → S'.2.1 2 = tp_k (S.2.1 2) (t0 : Int32).toNatClampNeg a1 4) ∧ (S' = F_t_put o S a1) ∧ True) (dg_B g D shX o rfX) (dg_A o shX.length sz)) 0 0 (dg_A o shX.length sz) := by
  refine dg_met (cc := cX8_put) (maxL := 3) (ret := none) (dk_dq rfl) rfl (Nat.le_of_ble_eq_true rfl) ?_
  intro p e s m args below meth c A hAe harg hx hb hr hml hts hown hlocks hin hP K hS hA1 hA ST hsz ls hl
  rw [← hAe]
  have F : CallFix p m c cX8_put 3 s args (bw yX8_put cX8_put 3 none) RX8 := ⟨hx, hb, hml, hown, hts⟩
  have hl : lv_has ls 3 [(0, .ref (o + 1)), (1, .int a1)] := hl
  have M_0 : dg_sm shX [(1, 1)] [2] S S := dg_sm.rf
  refine lv_bipush (v := 24) hx hb dX8_put_0 (by decide +kernel) ?_
  refine lv_istore_n (lv' := [(2, .int 24), (0, .ref (o + 1)), (1, .int a1)]) hx hb dX8_put_2 rfl hl (dk_dq rfl) rfl (fun ls hl => ?_)
  have L_23 : ∀ (n : Nat) (x_20 : Int32) (x_21 : Int32), ((-8) ≤ (x_20).toInt ∧ (x_20).toInt ≤ 24) → (0 ≤ (x_21).toInt ∧ (x_21).toInt ≤ 1600) → (((x_20).toInt - (-9)).toNat < n) → ∀ S_22 : dg_S, CX o S_22 → dg_sm shX [(1, 1)] [2] S S_22 → S_22.1 1 1 = .int x_21 → ((t0).toInt ≤ 1596 → 8 * ((x_21).toInt - (t0).toInt) + (x_20).toInt = 24) → (m_hid ((t0).toInt ≤ 1596 → S_22.2.1 2 = tp_k (S.2.1 2) (t0 : Int32).toNatClampNeg a1 ((x_21 : Int32).toNatClampNeg - (t0 : Int32).toNatClampNeg))) → (F_t_put o S a1 = lp (F_t_put_B1 a1) S n (x_20, x_21, S_22)) → ∀ (H : Heap) (locs : List Loc), va_P D vwCl (dg_w g shX o rfX S_22) H → va_S A s.heap H locs → ∀ ls : Array Slot, lv_has ls 3 [(2, .int x_20), (0, .ref (o + 1)), (1, .int a1)] → W p l e ({ frames := 1, cells := 0, slots := 0, locals := 32 } : Room) s m args below meth c H locs 0 0 (MQ below (va_Qv (fun S' => CX o S' ∧ dg_sm shX [(1, 1)] [2] S S' ∧ (∃ y9 : Int32, S'.1 1 1 = .int y9 ∧ ((t0).toInt ≤ 1596 → (y9).toInt = (t0).toInt + 4)) ∧ ((t0).toInt ≤ 1596 → S'.2.1 2 = tp_k (S.2.1 2) (t0 : Int32).toNatClampNeg a1 4) ∧ (S' = F_t_put o S a1) ∧ True) (dg_B g D shX o rfX) A) args s 0 0 A) (F0 m 3 ls []) := by
    as_aux_lemma =>
      intro n
      induction n with
      | zero =>
        intro x_20 x_21 b_x_20 b_x_21 hmu S_22 I_22 M_22 ff_22_1_1 srel_22_0 srel_22_1 hF_1 H locs hP hS ls hl
        omega
      | succ n ih =>
        as_aux_lemma =>
          intro x_20 x_21 b_x_20 b_x_21 hmu S_22 I_22 M_22 ff_22_1_1 srel_22_0 srel_22_1 hF_1 H locs hP hS ls hl
          refine lv_iload_n hx hb dX8_put_3 rfl (lv_at hl 0 rfl) ?_
          refine lv_if_lt (tgt := 49) hx hb dX8_put_4 (dk_dq rfl) (fun c_24 => ?_) (fun c_24 => ?_)
          · have jc_24 := dk_ltc (k := 0) (by decide +kernel) c_24
            refine W.widen (k := 0) (n := 0) (Nat.le_of_ble_eq_true rfl) (Nat.le_of_ble_eq_true rfl) ?_
            exact dg_vret hx hb hr hlocks hP hS ⟨I_22, M_22, ⟨x_21, ff_22_1_1, (by omega)⟩, (fun q9 => by first | exact tp_e (srel_22_1.out q9) (by omega) (by omega) | (exfalso; omega)), (Eq.symm (lp_r hF_1 (F_t_put_p0 c_24))), trivial⟩ dX8_put_49
          · as_aux_lemma =>
              have jc_24 := dk_nltc (k := 0) (by decide +kernel) c_24
              refine lv_aload_n hx hb dX8_put_7 rfl (lv_at hl 1 rfl) ?_
              refine dg_get (C := RX8) (T := TX8) (N := 2) hx hb hts (fun w h => bw_mem (wU_X8 w h)) hown K hP sX_1 rfl 1 (dk_dq rfl) (hts _ (bw_mem wB_486)) (fun _ h9 => h9) (v := .int x_21) ff_22_1_1 dX8_put_8 ?_
              refine lv_sipush (v := 1600) hx hb dX8_put_11 (by decide +kernel) ?_
              refine lv_icmp_ge (tgt := 49) hx hb dX8_put_14 (dk_dq rfl) (fun c_25 => ?_) (fun c_25 => ?_)
              · have jc_25 := dk_gec (k := 1600) (by decide +kernel) c_25
                refine W.widen (k := 0) (n := 0) (Nat.le_of_ble_eq_true rfl) (Nat.le_of_ble_eq_true rfl) ?_
                exact dg_vret hx hb hr hlocks hP hS ⟨I_22, M_22, ⟨x_21, ff_22_1_1, (by omega)⟩, (fun q9 => by first | exact tp_e (srel_22_1.out q9) (by omega) (by omega) | (exfalso; omega)), (Eq.symm (lp_r hF_1 (F_t_put_p1 c_24 c_25))), trivial⟩ dX8_put_49
              · as_aux_lemma =>
                  have jc_25 := dk_ngec (k := 1600) (by decide +kernel) c_25
                  refine lv_aload_n hx hb dX8_put_17 rfl (lv_at hl 1 rfl) ?_
                  refine dg_get (C := RX8) (T := TX8) (N := 2) hx hb hts (fun w h => bw_mem (wU_X8 w h)) hown K hP sX_1 rfl 0 (dk_dq rfl) (hts _ (bw_mem wB_487)) (fun _ h9 => h9) (v := .ref (o + 2)) (show S_22.1 1 0 = .ref (o + 2) from dg_I.rel (d := 1) I_22 sX_1 (by decide +kernel)) dX8_put_18 ?_
                  refine lv_aload_n hx hb dX8_put_21 rfl (lv_at hl 1 rfl) ?_
                  refine dg_get (C := RX8) (T := TX8) (N := 2) hx hb hts (fun w h => bw_mem (wU_X8 w h)) hown K hP sX_1 rfl 1 (dk_dq rfl) (hts _ (bw_mem wB_486)) (fun _ h9 => h9) (v := .int x_21) ff_22_1_1 dX8_put_22 ?_
                  refine lv_iload_n hx hb dX8_put_25 rfl (lv_at hl 2 rfl) ?_
                  refine lv_iload_n hx hb dX8_put_26 rfl (lv_at hl 0 rfl) ?_
                  refine lv_ishr hx hb dX8_put_27 ?_
                  refine lv_topi (fun x_26 ex_26 => ?_)
                  refine lv_sipush (v := 255) hx hb dX8_put_28 (by decide +kernel) ?_
                  refine lv_iand hx hb dX8_put_31 ?_
                  refine lv_topi (fun x_27 ex_27 => ?_)
                  have jx_27 := dk_and255 x_26
                  rw [← ex_27] at jx_27
                  have hin_28 : vp_in x_21 1600 := (dk_inv2 (by omega))
                  refine dg_iast hx hb K hP hS hA1 sX_2 hin_28 dX8_put_32 (fun S_29 e_29 H locs hP hS => ?_)
                  have I_29 := dg_I.ufu (lo := 0) (hi := 255) I_22 e_29 sX_2 (by decide +kernel) (show 0 ≤ (x_27).toInt ∧ (x_27).toInt ≤ 255 from (by omega))
                  have M_29 := dg_sm.uf M_22 e_29 sX_2 (dk_dq rfl)
                  refine lv_aload_n hx hb dX8_put_33 rfl (lv_at hl 1 rfl) ?_
                  refine lv_dup hx hb dX8_put_34 rfl ?_
                  refine dg_get (C := RX8) (T := TX8) (N := 2) hx hb hts (fun w h => bw_mem (wU_X8 w h)) hown K hP sX_1 rfl 1 (dk_dq rfl) (hts _ (bw_mem wB_486)) (fun _ h9 => h9) (v := .int x_21) ((dg_uf_F e_29 1 1).trans ff_22_1_1) dX8_put_35 ?_
                  refine lv_iconst (v := 1) hx hb dX8_put_38 (by decide +kernel) ?_
                  refine lv_iadd hx hb dX8_put_39 ?_
                  refine lv_topi (fun x_30 ex_30 => ?_)
                  have jx_30 : (x_30).toInt = (x_21).toInt + 1 := by rw [ex_30]; exact dk_addT2 rfl (by decide +kernel) (by omega)
                  refine dg_put (ci := 8) (v := .int x_30) (ty := tyX8 1) (C := RX8) (T := TX8) (N := 2) hx hb hts (fun w h => bw_mem (wU_X8 w h)) tyX8 tyX8_ok nmX8 hown K hP hS hA1 sX_1 rfl 1 (dk_dq rfl) (hts _ (bw_mem wB_486)) (fun _ h9 => h9) rfl (by decide +kernel) rfl rfl dX8_put_40 (fun S_31 e_31 H locs hP hS => ?_)
                  have I_31 := dg_I.uFi (lo := 0) (hi := 1600) I_29 e_31 sX_1 (by decide +kernel) (show 0 ≤ (x_30).toInt ∧ (x_30).toInt ≤ 1600 from (by omega))
                  have M_31 := dg_sm.uF M_29 e_31 sX_1 (dk_dq rfl)
                  obtain ⟨x_32, ex_32⟩ : ∃ z, z = x_20 + (-8) := ⟨_, rfl⟩
                  have jx_32 : (x_32).toInt = (x_20).toInt + (-8) := by rw [ex_32]; exact dk_addT2 rfl (by decide +kernel) (by omega)
                  refine lv_iinc (v := x_32) (lv' := [(2, .int x_32), (0, .ref (o + 1)), (1, .int a1)]) hx hb dX8_put_43 hl (k := 0) rfl (by rw [ex_32]; rfl) (dk_dq rfl) rfl (fun ls hl => ?_)
                  refine lv_goto (tgt := 3) hx hb dX8_put_46 (dk_dq rfl) ?_
                  exact ih x_32 x_30 (by omega) (by omega) (by first | exact mu_lt hmu (by omega) (by omega) | omega) S_31 I_31 M_31 (dg_uF_at e_31) (by omega) (m_hid.mk (fun q9 => tp_st (sh := x_20) (srel_22_1.out q9) (((dg_uF_f e_31 2)).trans (dg_uf_at e_29)) (by rw [ex_27, ex_26]; rfl) (by omega) (by omega) (by omega) (by omega))) (lp_l hF_1 (F_t_put_p2 c_24 c_25 ex_26 ex_27 e_29 ex_30 e_31 ex_32)) _ _ hP hS _ (lv_sub hl [0, 1, 2] rfl)
  have hz_33 : (24 : Int32).toInt = 24 := by decide +kernel
  have hz_34 : (24 : Int32).toInt = 24 := by decide +kernel
  exact L_23 ((((24 : Int32)).toInt - (-9)).toNat + 1) 24 t0 (by decide +kernel) (by omega) (by first | exact mu_lt hmu (by omega) (by omega) | omega) S I M_0 f_t0 (by omega) (m_hid.mk (fun q9 => tp_z rfl)) (F_t_put_p3 (zI_eq f_t0)) _ _ hP hS _ (lv_sub hl [0, 1, 2] rfl)
noncomputable def F_p_isOpen (o : Nat) (S : dg_S) (pt : Nat) (a1 : Int32) : Int32 := let x_2 : Int32 := S.2.1 (pt + 1) (a1 : Int32).toNatClampNeg; (if x_2 < (254 : Int32) then (0 : Int32) else (1 : Int32))
theorem F_p_isOpen_p0 {o : Nat} {S : dg_S} {pt : Nat} {a1 : Int32} {x_2 : Int32} (h0 : x_2 = S.2.1 (pt + 1) (a1 : Int32).toNatClampNeg) (h1 : x_2 < (254 : Int32)) : F_p_isOpen o S pt a1 = (0 : Int32) := by
  replace h0 := Eq.symm h0
  subst h0
  exact (Eq.trans (if_pos h1) rfl)
theorem F_p_isOpen_p1 {o : Nat} {S : dg_S} {pt : Nat} {a1 : Int32} {x_2 : Int32} (h0 : x_2 = S.2.1 (pt + 1) (a1 : Int32).toNatClampNeg) (h1 : ¬ (x_2 < (254 : Int32))) : F_p_isOpen o S pt a1 = (1 : Int32) := by
  replace h0 := Eq.symm h0
  subst h0
  exact (Eq.trans (if_neg h1) rfl)
set_option maxHeartbeats 8000000 in
set_option maxRecDepth 100000 in
theorem c_p_isOpen (l : Launch) (g : Nat → ClassId) (D : va_G) (o : Nat) (S : dg_S) (pt : Nat) (hk_pt : pX pt) (a1 : Int32) (b_a1 : 0 ≤ (a1).toInt ∧ (a1).toInt ≤ 71) (I : CX o S) (sz : Nat) : Met l yX5_isOpen (bw yX5_isOpen cX5_isOpen 2 (some .boolean)) ({ frames := 1, cells := 0, slots := 0, locals := 32 } : Room) (dk_Pc g D (dg_w g shX o rfX S) sz [.ref (o + pt), .int a1]) (va_Qi (fun (r : Int32) S' => S' = S ∧ (0 ≤ (r).toInt ∧ (r).toInt ≤ 1) ∧ ((r).toInt = 1 → (8 ≤ (a1).toInt ∧ (a1).toInt ≤ 63)) ∧ (r = F_p_isOpen o S pt a1) ∧ True) (dg_B g D shX o rfX) (dg_A o shX.length sz)) 0 0 (dg_A o shX.length sz) := by
  refine dg_met (cc := cX5_isOpen) (maxL := 2) (ret := (some .boolean)) (dk_dq rfl) rfl (Nat.le_of_ble_eq_true rfl) ?_
  intro p e s m args below meth c A hAe harg hx hb hr hml hts hown hlocks hin hP K hS hA1 hA ST hsz ls hl
  rw [← hAe]
  have F : CallFix p m c cX5_isOpen 2 s args (bw yX5_isOpen cX5_isOpen 2 (some .boolean)) RX5 := ⟨hx, hb, hml, hown, hts⟩
  have hl : lv_has ls 2 [(0, .ref (o + pt)), (1, .int a1)] := hl
  have M_0 : dg_sm shX [] [] S S := dg_sm.rf
  refine lv_aload_n hx hb dX5_isOpen_0 rfl (lv_at hl 0 rfl) ?_
  refine dg_get (C := RX5) (T := TX5) (N := 8) hx hb hts (fun w h => bw_mem (wU_X5 w h)) hown K hP (pX_0 pt hk_pt) rfl 2 (dk_dq rfl) (hts _ (bw_mem wB_488)) (fun _ h9 => h9) (v := .ref (o + (pt + 1))) (show S.1 pt 2 = .ref (o + (pt + 1)) from dg_I.rel (d := 1) I (pX_0 pt hk_pt) (by decide +kernel)) dX5_isOpen_1 ?_
  refine lv_iload_n hx hb dX5_isOpen_4 rfl (lv_at hl 1 rfl) ?_
  have hin_1 : vp_in a1 72 := (dk_inv2 (by omega))
  refine dg_iald hx hb K hP (pX_1 pt hk_pt) hin_1 dX5_isOpen_5 (fun x_2 ex_2 => ?_)
  have b_x_2 := dg_c0_at (dg_I.cel0 (lo := 0) (hi := 255) I (pX_1 pt hk_pt) (by decide +kernel)) hin_1 ex_2
  refine lv_sipush (v := 254) hx hb dX5_isOpen_6 (by decide +kernel) ?_
  refine lv_icmp_lt (tgt := 16) hx hb dX5_isOpen_9 (dk_dq rfl) (fun c_3 => ?_) (fun c_3 => ?_)
  · have jc_3 := dk_ltc (k := 254) (by decide +kernel) c_3
    refine lv_iconst (v := 0) hx hb dX5_isOpen_16 (by decide +kernel) ?_
    have hz_4 : (0 : Int32).toInt = 0 := by decide +kernel
    have hz_5 : (0 : Int32).toInt = 0 := by decide +kernel
    refine W.widen (k := 0) (n := 0) (Nat.le_of_ble_eq_true rfl) (Nat.le_of_ble_eq_true rfl) ?_
    exact dg_iret hx hb hr hlocks (by decide +kernel) hP hS ⟨rfl, (by decide +kernel), (by omega), (Eq.symm (F_p_isOpen_p0 (Eq.symm ex_2.symm) c_3)), trivial⟩ dX5_isOpen_17
  · have jc_3 := dk_nltc (k := 254) (by decide +kernel) c_3
    refine lv_iconst (v := 1) hx hb dX5_isOpen_12 (by decide +kernel) ?_
    refine lv_goto (tgt := 17) hx hb dX5_isOpen_13 (dk_dq rfl) ?_
    have hz_6 : (1 : Int32).toInt = 1 := by decide +kernel
    have hz_7 : (1 : Int32).toInt = 1 := by decide +kernel
    refine W.widen (k := 0) (n := 0) (Nat.le_of_ble_eq_true rfl) (Nat.le_of_ble_eq_true rfl) ?_
    exact dg_iret hx hb hr hlocks (by decide +kernel) hP hS ⟨rfl, (by decide +kernel), (by omega), (Eq.symm (F_p_isOpen_p1 (Eq.symm ex_2.symm) c_3)), trivial⟩ dX5_isOpen_17
noncomputable def F_p_isSolid (o : Nat) (S : dg_S) (pt : Nat) (a1 : Int32) : Int32 := let x_2 : Int32 := S.2.1 (pt + 1) (a1 : Int32).toNatClampNeg; (if (9 : Int32) < x_2 then (0 : Int32) else (1 : Int32))
theorem F_p_isSolid_p0 {o : Nat} {S : dg_S} {pt : Nat} {a1 : Int32} {x_2 : Int32} (h0 : x_2 = S.2.1 (pt + 1) (a1 : Int32).toNatClampNeg) (h1 : (9 : Int32) < x_2) : F_p_isSolid o S pt a1 = (0 : Int32) := by
  replace h0 := Eq.symm h0
  subst h0
  exact (Eq.trans (if_pos h1) rfl)
theorem F_p_isSolid_p1 {o : Nat} {S : dg_S} {pt : Nat} {a1 : Int32} {x_2 : Int32} (h0 : x_2 = S.2.1 (pt + 1) (a1 : Int32).toNatClampNeg) (h1 : ¬ ((9 : Int32) < x_2)) : F_p_isSolid o S pt a1 = (1 : Int32) := by
  replace h0 := Eq.symm h0
  subst h0
  exact (Eq.trans (if_neg h1) rfl)
set_option maxHeartbeats 8000000 in
set_option maxRecDepth 100000 in
theorem c_p_isSolid (l : Launch) (g : Nat → ClassId) (D : va_G) (o : Nat) (S : dg_S) (pt : Nat) (hk_pt : pX pt) (a1 : Int32) (b_a1 : 0 ≤ (a1).toInt ∧ (a1).toInt ≤ 71) (hf_pt : dg_fil S pt) (I : CX o S) (sz : Nat) : Met l yX5_isSolid (bw yX5_isSolid cX5_isSolid 2 (some .boolean)) ({ frames := 1, cells := 0, slots := 0, locals := 32 } : Room) (dk_Pc g D (dg_w g shX o rfX S) sz [.ref (o + pt), .int a1]) (va_Qi (fun (r : Int32) S' => S' = S ∧ (0 ≤ (r).toInt ∧ (r).toInt ≤ 1) ∧ ((r).toInt = 1 → (8 ≤ (a1).toInt ∧ (a1).toInt ≤ 63)) ∧ (∀ x9 : Int32, S'.2.1 (pt + 1) (a1 : Int32).toNatClampNeg = x9 → ((r).toInt = 1 → (x9).toInt ≤ 9)) ∧ (r = F_p_isSolid o S pt a1) ∧ True) (dg_B g D shX o rfX) (dg_A o shX.length sz)) 0 0 (dg_A o shX.length sz) := by
  refine dg_met (cc := cX5_isSolid) (maxL := 2) (ret := (some .boolean)) (dk_dq rfl) rfl (Nat.le_of_ble_eq_true rfl) ?_
  intro p e s m args below meth c A hAe harg hx hb hr hml hts hown hlocks hin hP K hS hA1 hA ST hsz ls hl
  rw [← hAe]
  have F : CallFix p m c cX5_isSolid 2 s args (bw yX5_isSolid cX5_isSolid 2 (some .boolean)) RX5 := ⟨hx, hb, hml, hown, hts⟩
  have hl : lv_has ls 2 [(0, .ref (o + pt)), (1, .int a1)] := hl
  have M_0 : dg_sm shX [] [] S S := dg_sm.rf
  refine lv_aload_n hx hb dX5_isSolid_0 rfl (lv_at hl 0 rfl) ?_
  refine dg_get (C := RX5) (T := TX5) (N := 8) hx hb hts (fun w h => bw_mem (wU_X5 w h)) hown K hP (pX_0 pt hk_pt) rfl 2 (dk_dq rfl) (hts _ (bw_mem wB_488)) (fun _ h9 => h9) (v := .ref (o + (pt + 1))) (show S.1 pt 2 = .ref (o + (pt + 1)) from dg_I.rel (d := 1) I (pX_0 pt hk_pt) (by decide +kernel)) dX5_isSolid_1 ?_
  refine lv_iload_n hx hb dX5_isSolid_4 rfl (lv_at hl 1 rfl) ?_
  have hin_1 : vp_in a1 72 := (dk_inv2 (by omega))
  refine dg_iald hx hb K hP (pX_1 pt hk_pt) hin_1 dX5_isSolid_5 (fun x_2 ex_2 => ?_)
  have b_x_2 := dg_cel_at (dg_I.cel (lo := 0) (hi := 255) I (pX_1 pt hk_pt) (by decide +kernel) hf_pt) hin_1 ex_2
  refine lv_bipush (v := 9) hx hb dX5_isSolid_6 (by decide +kernel) ?_
  refine lv_icmp_gt (tgt := 15) hx hb dX5_isSolid_8 (dk_dq rfl) (fun c_3 => ?_) (fun c_3 => ?_)
  · have jc_3 := dk_gtc (k := 9) (by decide +kernel) c_3
    refine lv_iconst (v := 0) hx hb dX5_isSolid_15 (by decide +kernel) ?_
    have hz_4 : (0 : Int32).toInt = 0 := by decide +kernel
    have hz_5 : (0 : Int32).toInt = 0 := by decide +kernel
    have hz_6 : (0 : Int32).toInt = 0 := by decide +kernel
    refine W.widen (k := 0) (n := 0) (Nat.le_of_ble_eq_true rfl) (Nat.le_of_ble_eq_true rfl) ?_
    exact dg_iret hx hb hr hlocks (by decide +kernel) hP hS ⟨rfl, (by decide +kernel), (by omega), (fun x9 h9 => by obtain rfl := (ex_2.symm).symm.trans h9; omega), (Eq.symm (F_p_isSolid_p0 (Eq.symm ex_2.symm) c_3)), trivial⟩ dX5_isSolid_16
  · have jc_3 := dk_ngtc (k := 9) (by decide +kernel) c_3
    refine lv_iconst (v := 1) hx hb dX5_isSolid_11 (by decide +kernel) ?_
    refine lv_goto (tgt := 16) hx hb dX5_isSolid_12 (dk_dq rfl) ?_
    have hz_7 : (1 : Int32).toInt = 1 := by decide +kernel
    have hz_8 : (1 : Int32).toInt = 1 := by decide +kernel
    have hz_9 : (1 : Int32).toInt = 1 := by decide +kernel
    refine W.widen (k := 0) (n := 0) (Nat.le_of_ble_eq_true rfl) (Nat.le_of_ble_eq_true rfl) ?_
    exact dg_iret hx hb hr hlocks (by decide +kernel) hP hS ⟨rfl, (by decide +kernel), (by omega), (fun x9 h9 => by obtain rfl := (ex_2.symm).symm.trans h9; omega), (Eq.symm (F_p_isSolid_p1 (Eq.symm ex_2.symm) c_3)), trivial⟩ dX5_isSolid_16
noncomputable def F_p_isSolid0 (o : Nat) (S : dg_S) (pt : Nat) (a1 : Int32) : Int32 := let x_2 : Int32 := S.2.1 (pt + 1) (a1 : Int32).toNatClampNeg; (if (9 : Int32) < x_2 then (0 : Int32) else (1 : Int32))
theorem F_p_isSolid0_p0 {o : Nat} {S : dg_S} {pt : Nat} {a1 : Int32} {x_2 : Int32} (h0 : x_2 = S.2.1 (pt + 1) (a1 : Int32).toNatClampNeg) (h1 : (9 : Int32) < x_2) : F_p_isSolid0 o S pt a1 = (0 : Int32) := by
  replace h0 := Eq.symm h0
  subst h0
  exact (Eq.trans (if_pos h1) rfl)
theorem F_p_isSolid0_p1 {o : Nat} {S : dg_S} {pt : Nat} {a1 : Int32} {x_2 : Int32} (h0 : x_2 = S.2.1 (pt + 1) (a1 : Int32).toNatClampNeg) (h1 : ¬ ((9 : Int32) < x_2)) : F_p_isSolid0 o S pt a1 = (1 : Int32) := by
  replace h0 := Eq.symm h0
  subst h0
  exact (Eq.trans (if_neg h1) rfl)
set_option maxHeartbeats 8000000 in
set_option maxRecDepth 100000 in
theorem c_p_isSolid0 (l : Launch) (g : Nat → ClassId) (D : va_G) (o : Nat) (S : dg_S) (pt : Nat) (hk_pt : pX pt) (a1 : Int32) (b_a1 : 0 ≤ (a1).toInt ∧ (a1).toInt ≤ 71) (I : CX o S) (sz : Nat) : Met l yX5_isSolid (bw yX5_isSolid cX5_isSolid 2 (some .boolean)) ({ frames := 1, cells := 0, slots := 0, locals := 32 } : Room) (dk_Pc g D (dg_w g shX o rfX S) sz [.ref (o + pt), .int a1]) (va_Qi (fun (r : Int32) S' => S' = S ∧ (0 ≤ (r).toInt ∧ (r).toInt ≤ 1) ∧ (∀ x9 : Int32, S'.2.1 (pt + 1) (a1 : Int32).toNatClampNeg = x9 → ((r).toInt = 1 → (x9).toInt ≤ 9)) ∧ (r = F_p_isSolid0 o S pt a1) ∧ True) (dg_B g D shX o rfX) (dg_A o shX.length sz)) 0 0 (dg_A o shX.length sz) := by
  refine dg_met (cc := cX5_isSolid) (maxL := 2) (ret := (some .boolean)) (dk_dq rfl) rfl (Nat.le_of_ble_eq_true rfl) ?_
  intro p e s m args below meth c A hAe harg hx hb hr hml hts hown hlocks hin hP K hS hA1 hA ST hsz ls hl
  rw [← hAe]
  have F : CallFix p m c cX5_isSolid 2 s args (bw yX5_isSolid cX5_isSolid 2 (some .boolean)) RX5 := ⟨hx, hb, hml, hown, hts⟩
  have hl : lv_has ls 2 [(0, .ref (o + pt)), (1, .int a1)] := hl
  have M_0 : dg_sm shX [] [] S S := dg_sm.rf
  refine lv_aload_n hx hb dX5_isSolid_0 rfl (lv_at hl 0 rfl) ?_
  refine dg_get (C := RX5) (T := TX5) (N := 8) hx hb hts (fun w h => bw_mem (wU_X5 w h)) hown K hP (pX_0 pt hk_pt) rfl 2 (dk_dq rfl) (hts _ (bw_mem wB_488)) (fun _ h9 => h9) (v := .ref (o + (pt + 1))) (show S.1 pt 2 = .ref (o + (pt + 1)) from dg_I.rel (d := 1) I (pX_0 pt hk_pt) (by decide +kernel)) dX5_isSolid_1 ?_
  refine lv_iload_n hx hb dX5_isSolid_4 rfl (lv_at hl 1 rfl) ?_
  have hin_1 : vp_in a1 72 := (dk_inv2 (by omega))
  refine dg_iald hx hb K hP (pX_1 pt hk_pt) hin_1 dX5_isSolid_5 (fun x_2 ex_2 => ?_)
  have b_x_2 := dg_c0_at (dg_I.cel0 (lo := 0) (hi := 255) I (pX_1 pt hk_pt) (by decide +kernel)) hin_1 ex_2
  refine lv_bipush (v := 9) hx hb dX5_isSolid_6 (by decide +kernel) ?_
  refine lv_icmp_gt (tgt := 15) hx hb dX5_isSolid_8 (dk_dq rfl) (fun c_3 => ?_) (fun c_3 => ?_)
  · have jc_3 := dk_gtc (k := 9) (by decide +kernel) c_3
    refine lv_iconst (v := 0) hx hb dX5_isSolid_15 (by decide +kernel) ?_
    have hz_4 : (0 : Int32).toInt = 0 := by decide +kernel
    have hz_5 : (0 : Int32).toInt = 0 := by decide +kernel
    refine W.widen (k := 0) (n := 0) (Nat.le_of_ble_eq_true rfl) (Nat.le_of_ble_eq_true rfl) ?_
    exact dg_iret hx hb hr hlocks (by decide +kernel) hP hS ⟨rfl, (by decide +kernel), (fun x9 h9 => by obtain rfl := (ex_2.symm).symm.trans h9; omega), (Eq.symm (F_p_isSolid0_p0 (Eq.symm ex_2.symm) c_3)), trivial⟩ dX5_isSolid_16
  · have jc_3 := dk_ngtc (k := 9) (by decide +kernel) c_3
    refine lv_iconst (v := 1) hx hb dX5_isSolid_11 (by decide +kernel) ?_
    refine lv_goto (tgt := 16) hx hb dX5_isSolid_12 (dk_dq rfl) ?_
    have hz_6 : (1 : Int32).toInt = 1 := by decide +kernel
    have hz_7 : (1 : Int32).toInt = 1 := by decide +kernel
    refine W.widen (k := 0) (n := 0) (Nat.le_of_ble_eq_true rfl) (Nat.le_of_ble_eq_true rfl) ?_
    exact dg_iret hx hb hr hlocks (by decide +kernel) hP hS ⟨rfl, (by decide +kernel), (fun x9 h9 => by obtain rfl := (ex_2.symm).symm.trans h9; omega), (Eq.symm (F_p_isSolid0_p1 (Eq.symm ex_2.symm) c_3)), trivial⟩ dX5_isSolid_16
noncomputable def F_p_gradeAt (o : Nat) (S : dg_S) (pt : Nat) (a1 : Int32) : Int32 := let x_1 : Int32 := F_p_isSolid0 o S pt a1; let x_3 : Int32 := S.2.1 (pt + 1) (a1 : Int32).toNatClampNeg; (if x_1 = (0 : Int32) then (-1 : Int32) else x_3)
theorem F_p_gradeAt_p0 {o : Nat} {S : dg_S} {pt : Nat} {a1 : Int32} {x_1 : Int32} (h0 : x_1 = F_p_isSolid0 o S pt a1) (h1 : x_1 = (0 : Int32)) : F_p_gradeAt o S pt a1 = (-1 : Int32) := by
  replace h0 := Eq.symm h0
  subst h0
  exact (Eq.trans (if_pos h1) rfl)
theorem F_p_gradeAt_p1 {o : Nat} {S : dg_S} {pt : Nat} {a1 : Int32} {x_3 : Int32} {x_1 : Int32} (h0 : x_1 = F_p_isSolid0 o S pt a1) (h1 : x_3 = S.2.1 (pt + 1) (a1 : Int32).toNatClampNeg) (h2 : ¬ (x_1 = (0 : Int32))) : F_p_gradeAt o S pt a1 = x_3 := by
  replace h0 := Eq.symm h0
  subst h0
  replace h1 := Eq.symm h1
  subst h1
  exact (Eq.trans (if_neg h2) rfl)
set_option maxHeartbeats 8000000 in
set_option maxRecDepth 100000 in
theorem c_p_gradeAt (l : Launch) (g : Nat → ClassId) (D : va_G) (o : Nat) (S : dg_S) (pt : Nat) (hk_pt : pX pt) (a1 : Int32) (b_a1 : 0 ≤ (a1).toInt ∧ (a1).toInt ≤ 71) (I : CX o S) (sz : Nat) : Met l yX5_gradeAt (bw yX5_gradeAt cX5_gradeAt 2 (some .int)) ({ frames := 2, cells := 0, slots := 0, locals := 53 } : Room) (dk_Pc g D (dg_w g shX o rfX S) sz [.ref (o + pt), .int a1]) (va_Qi (fun (r : Int32) S' => S' = S ∧ ((-1) ≤ (r).toInt ∧ (r).toInt ≤ 9) ∧ (r = F_p_gradeAt o S pt a1) ∧ True) (dg_B g D shX o rfX) (dg_A o shX.length sz)) 0 0 (dg_A o shX.length sz) := by
  refine dg_met (cc := cX5_gradeAt) (maxL := 2) (ret := (some .int)) (dk_dq rfl) rfl (Nat.le_of_ble_eq_true rfl) ?_
  intro p e s m args below meth c A hAe harg hx hb hr hml hts hown hlocks hin hP K hS hA1 hA ST hsz ls hl
  rw [← hAe]
  have F : CallFix p m c cX5_gradeAt 2 s args (bw yX5_gradeAt cX5_gradeAt 2 (some .int)) RX5 := ⟨hx, hb, hml, hown, hts⟩
  have hl : lv_has ls 2 [(0, .ref (o + pt)), (1, .int a1)] := hl
  have M_0 : dg_sm shX [] [] S S := dg_sm.rf
  refine lv_aload_n hx hb dX5_gradeAt_0 rfl (lv_at hl 0 rfl) ?_
  refine lv_iload_n hx hb dX5_gradeAt_1 rfl (lv_at hl 1 rfl) ?_
  refine dg_calli hS hA1 hA (va_runV (As := [.int a1]) (rest := []) F (c_p_isSolid0 l g D o S pt hk_pt a1 (by omega) I s.heap.size) (cwV 1 hts (bw_V wB_490 wB_491 wB_492 wB_493 wB_489) rfl rfl rfl (by decide +kernel) ⟨Nat.le_of_ble_eq_true rfl, Nat.le_of_ble_eq_true rfl⟩) (dg_preV (pX_0 pt hk_pt) rfl K ST hP hS hA1 hA) rfl rfl hl.1 rfl (lv_room (Nat.le_of_ble_eq_true rfl)) dX5_gradeAt_2 ⟨Nat.le_of_ble_eq_true rfl, Nat.le_of_ble_eq_true rfl⟩) (fun x_1 S_2 hw_2 H locs hP hS => ?_)
  rw [hw_2.1] at hP
  obtain ⟨hq_2, w_2_0, w_2_1, w_2_2, -⟩ := hw_2
  rw [hq_2] at w_2_1
  have w_2_0 : 0 ≤ (x_1).toInt ∧ (x_1).toInt ≤ 1 := w_2_0
  obtain ⟨x_3, f_x_3⟩ : ∃ x, S.2.1 (pt + 1) (a1 : Int32).toNatClampNeg = x := ⟨_, rfl⟩
  have hin_4 : vp_in (a1 : Int32) 72 := (dk_inv2 (by omega))
  have b_x_3 := dg_c0_at (dg_I.cel0 (lo := 0) (hi := 255) I (pX_1 pt hk_pt) (by decide +kernel)) hin_4 f_x_3.symm
  have w_2_1 : (x_1).toInt = 1 → (x_3).toInt ≤ 9 := w_2_1 x_3 f_x_3
  refine lv_if_eq (tgt := 17) hx hb dX5_gradeAt_5 (dk_dq rfl) (fun c_5 => ?_) (fun c_5 => ?_)
  · have jc_5 := dk_eqc (k := 0) (by decide +kernel) c_5
    refine lv_iconst (v := (-1)) hx hb dX5_gradeAt_17 (by decide +kernel) ?_
    have hz_6 : (-1 : Int32).toInt = (-1) := by decide +kernel
    refine W.widen (k := 0) (n := 0) (Nat.le_of_ble_eq_true rfl) (Nat.le_of_ble_eq_true rfl) ?_
    exact dg_iret hx hb hr hlocks rfl hP hS ⟨rfl, (by decide +kernel), (Eq.symm (F_p_gradeAt_p0 w_2_2 c_5)), trivial⟩ dX5_gradeAt_18
  · have jc_5 := dk_neqc (k := 0) (by decide +kernel) c_5
    refine lv_aload_n hx hb dX5_gradeAt_8 rfl (lv_at hl 0 rfl) ?_
    refine dg_get (C := RX5) (T := TX5) (N := 8) hx hb hts (fun w h => bw_mem (wU_X5 w h)) hown K hP (pX_0 pt hk_pt) rfl 2 (dk_dq rfl) (hts _ (bw_mem wB_488)) (fun _ h9 => h9) (v := .ref (o + (pt + 1))) (show S.1 pt 2 = .ref (o + (pt + 1)) from dg_I.rel (d := 1) I (pX_0 pt hk_pt) (by decide +kernel)) dX5_gradeAt_9 ?_
    refine lv_iload_n hx hb dX5_gradeAt_12 rfl (lv_at hl 1 rfl) ?_
    have hin_7 : vp_in a1 72 := (dk_inv2 (by omega))
    refine dg_iald hx hb K hP (pX_1 pt hk_pt) hin_7 dX5_gradeAt_13 (fun y_8 ey_8 => ?_)
    obtain rfl : x_3 = y_8 := (ey_8.trans f_x_3).symm
    refine lv_goto (tgt := 18) hx hb dX5_gradeAt_14 (dk_dq rfl) ?_
    refine W.widen (k := 0) (n := 0) (Nat.le_of_ble_eq_true rfl) (Nat.le_of_ble_eq_true rfl) ?_
    exact dg_iret hx hb hr hlocks rfl hP hS ⟨rfl, (by omega), (Eq.symm (F_p_gradeAt_p1 w_2_2 (Eq.symm f_x_3) c_5)), trivial⟩ dX5_gradeAt_18
noncomputable def F_p_openBeside_J2 (x_54 : Int32) (x_65 : Int32) : (Int32 × Int32) ⊕ (Int32) := let x_68 : Int32 := x_54 + 1; (Sum.inl (x_68, x_65))
noncomputable def F_p_openBeside_B1 (a1 : Int32) (o : Nat) (S : dg_S) (pt : Nat) : (Int32 × Int32) → (Int32 × Int32) ⊕ (Int32) := fun w9 => match w9 with | (x_54, x_55) => (if (4 : Int32) ≤ x_54 then (Sum.inr (x_55)) else let x_59 : Int32 := zV (dk_sides (x_54 : Int32).toNatClampNeg); let x_60 : Int32 := a1 + x_59; let x_61 : Int32 := F_p_isOpen o S pt x_60; (if x_61 = (0 : Int32) then (F_p_openBeside_J2 x_54 x_55) else let x_70 : Int32 := x_55 + 1; (F_p_openBeside_J2 x_54 x_70)))
noncomputable def F_p_openBeside (o : Nat) (S : dg_S) (pt : Nat) (a1 : Int32) : Int32 := (lp (F_p_openBeside_B1 a1 o S pt) (0 : Int32) ((5 - ((0 : Int32)).toInt).toNat + 1) ((0 : Int32), (0 : Int32)))
theorem F_p_openBeside_p0 {a1 : Int32} {o : Nat} {S : dg_S} {pt : Nat} {x_54 : Int32} {x_55 : Int32} (h0 : (4 : Int32) ≤ x_54) : (F_p_openBeside_B1 a1 o S pt) (x_54, x_55) = Sum.inr (x_55) := (Eq.trans (if_pos h0) rfl)
theorem F_p_openBeside_p1 {x_54 : Int32} {x_65 : Int32} {x_68 : Int32} (h0 : x_68 = x_54 + 1) : F_p_openBeside_J2 x_54 x_65 = Sum.inl (x_68, x_65) := by
  replace h0 := Eq.symm h0
  subst h0
  exact rfl
theorem F_p_openBeside_p2 {a1 : Int32} {o : Nat} {S : dg_S} {pt : Nat} {x_54 : Int32} {x_55 : Int32} {x_59 : Int32} {x_60 : Int32} {x_61 : Int32} (h0 : ¬ ((4 : Int32) ≤ x_54)) (h1 : x_59 = zV (dk_sides (x_54 : Int32).toNatClampNeg)) (h2 : x_60 = a1 + x_59) (h3 : x_61 = F_p_isOpen o S pt x_60) (h4 : x_61 = (0 : Int32)) : (F_p_openBeside_B1 a1 o S pt) (x_54, x_55) = F_p_openBeside_J2 x_54 x_55 := by
  replace h1 := Eq.symm h1
  subst h1
  replace h2 := Eq.symm h2
  subst h2
  replace h3 := Eq.symm h3
  subst h3
  exact (Eq.trans (if_neg h0) (Eq.trans (if_pos h4) rfl))
theorem F_p_openBeside_p3 {a1 : Int32} {o : Nat} {S : dg_S} {pt : Nat} {x_54 : Int32} {x_55 : Int32} {x_70 : Int32} {x_59 : Int32} {x_60 : Int32} {x_61 : Int32} (h0 : ¬ ((4 : Int32) ≤ x_54)) (h1 : x_59 = zV (dk_sides (x_54 : Int32).toNatClampNeg)) (h2 : x_60 = a1 + x_59) (h3 : x_61 = F_p_isOpen o S pt x_60) (h4 : ¬ (x_61 = (0 : Int32))) (h5 : x_70 = x_55 + 1) : (F_p_openBeside_B1 a1 o S pt) (x_54, x_55) = F_p_openBeside_J2 x_54 x_70 := by
  replace h1 := Eq.symm h1
  subst h1
  replace h2 := Eq.symm h2
  subst h2
  replace h3 := Eq.symm h3
  subst h3
  replace h5 := Eq.symm h5
  subst h5
  exact (Eq.trans (if_neg h0) (Eq.trans (if_neg h4) rfl))
theorem F_p_openBeside_p4 {o : Nat} {S : dg_S} {pt : Nat} {a1 : Int32}  : F_p_openBeside o S pt a1 = lp (F_p_openBeside_B1 a1 o S pt) (0 : Int32) ((5 - ((0 : Int32)).toInt).toNat + 1) ((0 : Int32), (0 : Int32)) := rfl
set_option maxHeartbeats 8000000 in
set_option maxRecDepth 100000 in
theorem c_p_openBeside (l : Launch) (g : Nat → ClassId) (D : va_G) (o : Nat) (S : dg_S) (pt : Nat) (hk_pt : pX pt) (a1 : Int32) (b_a1 : 8 ≤ (a1).toInt ∧ (a1).toInt ≤ 63) (I : CX o S) (sz : Nat) : Met l yX5_openBeside (bw yX5_openBeside cX5_openBeside 7 (some .int)) ({ frames := 2, cells := 0, slots := 0, locals := 53 } : Room) (dk_Pc g D (dg_w g shX o rfX S) sz [.ref (o + pt), .int a1]) (va_Qi (fun (r : Int32) S' => S' = S ∧ (r = F_p_openBeside o S pt a1) ∧ True) (dg_B g D shX o rfX) (dg_A o shX.length sz)) 0 0 (dg_A o shX.length sz) := by
  refine dg_met (cc := cX5_openBeside) (maxL := 7) (ret := (some .int)) (dk_dq rfl) rfl (Nat.le_of_ble_eq_true rfl) ?_
  intro p e s m args below meth c A hAe harg hx hb hr hml hts hown hlocks hin hP K hS hA1 hA ST hsz ls hl
  rw [← hAe]
  have F : CallFix p m c cX5_openBeside 7 s args (bw yX5_openBeside cX5_openBeside 7 (some .int)) RX5 := ⟨hx, hb, hml, hown, hts⟩
  have hl : lv_has ls 7 [(0, .ref (o + pt)), (1, .int a1)] := hl
  have M_0 : dg_sm shX [] [] S S := dg_sm.rf
  obtain ⟨⟨sd, hZs, hTs⟩, -⟩ := id ST
  refine lv_iconst (v := 0) hx hb dX5_openBeside_0 (by decide +kernel) ?_
  refine lv_istore_n (lv' := [(2, .int 0), (0, .ref (o + pt)), (1, .int a1)]) hx hb dX5_openBeside_1 rfl hl (dk_dq rfl) rfl (fun ls hl => ?_)
  refine va_getsN (host := RX11) hx hb hZs hS hown (va_Nw.use rfl (K.2.1 _ (List.mem_of_getElem? (i := 11) rfl))) (fun _ h9 => h9) dX5_openBeside_2 ?_
  refine lv_astore_n (lv' := [(3, .ref sd), (2, .int 0), (0, .ref (o + pt)), (1, .int a1)]) hx hb dX5_openBeside_5 rfl hl (dk_dq rfl) rfl (fun ls hl => ?_)
  refine lv_aload_n hx hb dX5_openBeside_6 rfl (lv_at hl 0 rfl) ?_
  refine va_tlen hx hb hTs hS (v := 4) rfl dX5_openBeside_7 ?_
  refine lv_istore (lv' := [(4, .int 4), (3, .ref sd), (2, .int 0), (0, .ref (o + pt)), (1, .int a1)]) hx hb dX5_openBeside_8 hl (dk_dq rfl) rfl (fun ls hl => ?_)
  refine lv_iconst (v := 0) hx hb dX5_openBeside_10 (by decide +kernel) ?_
  refine lv_istore (lv' := [(5, .int 0), (4, .int 4), (3, .ref sd), (2, .int 0), (0, .ref (o + pt)), (1, .int a1)]) hx hb dX5_openBeside_11 hl (dk_dq rfl) rfl (fun ls hl => ?_)
  have L_56 : ∀ (n : Nat) (x_54 : Int32) (x_55 : Int32), (0 ≤ (x_54).toInt ∧ (x_54).toInt ≤ 4) → ((5 - (x_54).toInt).toNat < n) → (F_p_openBeside o S pt a1 = lp (F_p_openBeside_B1 a1 o S pt) (0 : Int32) n (x_54, x_55)) → ∀ (H : Heap) (locs : List Loc), va_P D vwCl (dg_w g shX o rfX S) H → va_S A s.heap H locs → ∀ ls : Array Slot, lv_has ls 7 [(5, .int x_54), (4, .int 4), (3, .ref sd), (2, .int x_55), (0, .ref (o + pt)), (1, .int a1)] → W p l e ({ frames := 2, cells := 0, slots := 0, locals := 53 } : Room) s m args below meth c H locs 0 0 (MQ below (va_Qi (fun (r : Int32) S' => S' = S ∧ (r = F_p_openBeside o S pt a1) ∧ True) (dg_B g D shX o rfX) A) args s 0 0 A) (F0 m 13 ls []) := by
    as_aux_lemma =>
      intro n
      induction n with
      | zero =>
        intro x_54 x_55 b_x_54 hmu hF_1 H locs hP hS ls hl
        omega
      | succ n ih =>
        as_aux_lemma =>
          intro x_54 x_55 b_x_54 hmu hF_1 H locs hP hS ls hl
          refine lv_iload hx hb dX5_openBeside_13 (lv_at hl 0 rfl) ?_
          refine lv_iload hx hb dX5_openBeside_15 (lv_at hl 1 rfl) ?_
          refine lv_icmp_ge (tgt := 46) hx hb dX5_openBeside_17 (dk_dq rfl) (fun c_57 => ?_) (fun c_57 => ?_)
          · have jc_57 := dk_gec (k := 4) (by decide +kernel) c_57
            refine lv_iload_n hx hb dX5_openBeside_46 rfl (lv_at hl 3 rfl) ?_
            refine W.widen (k := 0) (n := 0) (Nat.le_of_ble_eq_true rfl) (Nat.le_of_ble_eq_true rfl) ?_
            exact dg_iret hx hb hr hlocks rfl hP hS ⟨rfl, (Eq.symm (lp_r hF_1 (F_p_openBeside_p0 c_57))), trivial⟩ dX5_openBeside_47
          · as_aux_lemma =>
              have jc_57 := dk_ngec (k := 4) (by decide +kernel) c_57
              refine lv_aload_n hx hb dX5_openBeside_20 rfl (lv_at hl 2 rfl) ?_
              refine lv_iload hx hb dX5_openBeside_21 (lv_at hl 0 rfl) ?_
              have hin_58 : vp_in x_54 4 := (dk_inv2 (by omega))
              obtain ⟨x_59, ex_59, jx_59⟩ := dk_side_at hin_58
              refine va_ti hx hb hTs hS hin_58 ex_59 dX5_openBeside_23 ?_
              refine lv_istore (lv' := [(6, .int x_59), (5, .int x_54), (4, .int 4), (3, .ref sd), (2, .int x_55), (0, .ref (o + pt)), (1, .int a1)]) hx hb dX5_openBeside_24 hl (dk_dq rfl) rfl (fun ls hl => ?_)
              refine lv_aload_n hx hb dX5_openBeside_26 rfl (lv_at hl 5 rfl) ?_
              refine lv_iload_n hx hb dX5_openBeside_27 rfl (lv_at hl 6 rfl) ?_
              refine lv_iload hx hb dX5_openBeside_28 (lv_at hl 0 rfl) ?_
              refine lv_iadd hx hb dX5_openBeside_30 ?_
              refine lv_topi (fun x_60 ex_60 => ?_)
              have jx_60 : (x_60).toInt = (a1).toInt + (x_59).toInt := by rw [ex_60]; exact dk_addT2 rfl rfl (by omega)
              refine dg_calli hS hA1 hA (va_runV (As := [.int x_60]) (rest := []) F (c_p_isOpen l g D o S pt hk_pt x_60 (by omega) I H.size) (cwV 1 hts (bw_V wB_495 wB_496 wB_497 wB_493 wB_494) rfl rfl rfl (by decide +kernel) ⟨Nat.le_of_ble_eq_true rfl, Nat.le_of_ble_eq_true rfl⟩) (dg_preV (pX_0 pt hk_pt) rfl K ST hP hS hA1 hA) rfl rfl hl.1 rfl (lv_room (Nat.le_of_ble_eq_true rfl)) dX5_openBeside_31 ⟨Nat.le_of_ble_eq_true rfl, Nat.le_of_ble_eq_true rfl⟩) (fun x_61 S_62 hw_62 H locs hP hS => ?_)
              rw [hw_62.1] at hP
              obtain ⟨hq_62, w_62_0, w_62_1, w_62_2, -⟩ := hw_62
              have w_62_0 : 0 ≤ (x_61).toInt ∧ (x_61).toInt ≤ 1 := w_62_0
              have w_62_1 : (x_61).toInt = 1 → (8 ≤ (x_60).toInt ∧ (x_60).toInt ≤ 63) := w_62_1
              have J_67 : ∀ (x_65 : Int32), ((F_p_openBeside_B1 a1 o S pt) (x_54, x_55) = F_p_openBeside_J2 x_54 x_65) → ∀ (H : Heap) (locs : List Loc), va_P D vwCl (dg_w g shX o rfX S) H → va_S A s.heap H locs → ∀ ls : Array Slot, lv_has ls 7 [(6, .int x_59), (5, .int x_54), (4, .int 4), (3, .ref sd), (2, .int x_65), (0, .ref (o + pt)), (1, .int a1)] → W p l e ({ frames := 2, cells := 0, slots := 0, locals := 53 } : Room) s m args below meth c H locs 0 0 (MQ below (va_Qi (fun (r : Int32) S' => S' = S ∧ (r = F_p_openBeside o S pt a1) ∧ True) (dg_B g D shX o rfX) A) args s 0 0 A) (F0 m 40 ls []) := by
                intro x_65 hF_2 H locs hP hS ls hl
                obtain ⟨x_68, ex_68⟩ : ∃ z, z = x_54 + 1 := ⟨_, rfl⟩
                have jx_68 : (x_68).toInt = (x_54).toInt + 1 := by rw [ex_68]; exact dk_addT2 rfl (by decide +kernel) (by omega)
                refine lv_iinc (v := x_68) (lv' := [(5, .int x_68), (6, .int x_59), (4, .int 4), (3, .ref sd), (2, .int x_65), (0, .ref (o + pt)), (1, .int a1)]) hx hb dX5_openBeside_40 hl (k := 1) rfl (by rw [ex_68]; rfl) (dk_dq rfl) rfl (fun ls hl => ?_)
                refine lv_goto (tgt := 13) hx hb dX5_openBeside_43 (dk_dq rfl) ?_
                exact ih x_68 x_65 (by omega) (by first | exact mu_lt hmu (by omega) (by omega) | omega) (lp_l hF_1 (Eq.trans hF_2 (F_p_openBeside_p1 ex_68))) _ _ hP hS _ (lv_sub hl [0, 2, 3, 4, 5, 6] rfl)
              refine lv_if_eq (tgt := 40) hx hb dX5_openBeside_34 (dk_dq rfl) (fun c_69 => ?_) (fun c_69 => ?_)
              · have jc_69 := dk_eqc (k := 0) (by decide +kernel) c_69
                exact J_67 x_55  (F_p_openBeside_p2 c_57 (zV_eq ex_59) ex_60 w_62_2 c_69) _ _ hP hS _ (lv_sub hl [0, 1, 2, 3, 4, 5, 6] rfl)
              · have jc_69 := dk_neqc (k := 0) (by decide +kernel) c_69
                obtain ⟨x_70, ex_70⟩ : ∃ z, z = x_55 + 1 := ⟨_, rfl⟩
                refine lv_iinc (v := x_70) (lv' := [(2, .int x_70), (6, .int x_59), (5, .int x_54), (4, .int 4), (3, .ref sd), (0, .ref (o + pt)), (1, .int a1)]) hx hb dX5_openBeside_37 hl (k := 4) rfl (by rw [ex_70]; rfl) (dk_dq rfl) rfl (fun ls hl => ?_)
                exact J_67 x_70  (F_p_openBeside_p3 c_57 (zV_eq ex_59) ex_60 w_62_2 c_69 ex_70) _ _ hP hS _ (lv_sub hl [1, 2, 3, 4, 0, 5, 6] rfl)
  have hz_71 : (0 : Int32).toInt = 0 := by decide +kernel
  have hz_72 : (0 : Int32).toInt = 0 := by decide +kernel
  have hz_73 : (0 : Int32).toInt = 0 := by decide +kernel
  exact L_56 ((5 - ((0 : Int32)).toInt).toNat + 1) 0 0 (by decide +kernel) (by first | exact mu_lt hmu (by omega) (by omega) | omega) (F_p_openBeside_p4) _ _ hP hS _ (lv_sub hl [0, 1, 2, 3, 4, 5] rfl)
noncomputable def F_p_canBeDug (o : Nat) (S : dg_S) (pt : Nat) (a1 : Int32) : Int32 := let x_1 : Int32 := F_p_isSolid o S pt a1; let x_3 : Int32 := S.2.1 (pt + 1) (a1 : Int32).toNatClampNeg; (if x_1 = (0 : Int32) then (0 : Int32) else let x_8 : Int32 := F_p_openBeside o S pt a1; (if x_8 ≤ (0 : Int32) then (0 : Int32) else (1 : Int32)))
theorem F_p_canBeDug_p0 {o : Nat} {S : dg_S} {pt : Nat} {a1 : Int32} {x_1 : Int32} (h0 : x_1 = F_p_isSolid o S pt a1) (h1 : x_1 = (0 : Int32)) : F_p_canBeDug o S pt a1 = (0 : Int32) := by
  replace h0 := Eq.symm h0
  subst h0
  exact (Eq.trans (if_pos h1) rfl)
theorem F_p_canBeDug_p1 {o : Nat} {S : dg_S} {pt : Nat} {a1 : Int32} {x_1 : Int32} {x_8 : Int32} (h0 : x_1 = F_p_isSolid o S pt a1) (h1 : ¬ (x_1 = (0 : Int32))) (h2 : x_8 = F_p_openBeside o S pt a1) (h3 : x_8 ≤ (0 : Int32)) : F_p_canBeDug o S pt a1 = (0 : Int32) := by
  replace h0 := Eq.symm h0
  subst h0
  replace h2 := Eq.symm h2
  subst h2
  exact (Eq.trans (if_neg h1) (Eq.trans (if_pos h3) rfl))
theorem F_p_canBeDug_p2 {o : Nat} {S : dg_S} {pt : Nat} {a1 : Int32} {x_1 : Int32} {x_8 : Int32} (h0 : x_1 = F_p_isSolid o S pt a1) (h1 : ¬ (x_1 = (0 : Int32))) (h2 : x_8 = F_p_openBeside o S pt a1) (h3 : ¬ (x_8 ≤ (0 : Int32))) : F_p_canBeDug o S pt a1 = (1 : Int32) := by
  replace h0 := Eq.symm h0
  subst h0
  replace h2 := Eq.symm h2
  subst h2
  exact (Eq.trans (if_neg h1) (Eq.trans (if_neg h3) rfl))
set_option maxHeartbeats 8000000 in
set_option maxRecDepth 100000 in
theorem c_p_canBeDug (l : Launch) (g : Nat → ClassId) (D : va_G) (o : Nat) (S : dg_S) (pt : Nat) (hk_pt : pX pt) (a1 : Int32) (b_a1 : 0 ≤ (a1).toInt ∧ (a1).toInt ≤ 63) (hf_pt : dg_fil S pt) (I : CX o S) (sz : Nat) : Met l yX5_canBeDug (bw yX5_canBeDug cX5_canBeDug 2 (some .boolean)) ({ frames := 3, cells := 0, slots := 0, locals := 79 } : Room) (dk_Pc g D (dg_w g shX o rfX S) sz [.ref (o + pt), .int a1]) (va_Qi (fun (r : Int32) S' => S' = S ∧ (0 ≤ (r).toInt ∧ (r).toInt ≤ 1) ∧ ((r).toInt = 1 → (8 ≤ (a1).toInt ∧ (a1).toInt ≤ 63)) ∧ (r = F_p_canBeDug o S pt a1) ∧ True) (dg_B g D shX o rfX) (dg_A o shX.length sz)) 0 0 (dg_A o shX.length sz) := by
  refine dg_met (cc := cX5_canBeDug) (maxL := 2) (ret := (some .boolean)) (dk_dq rfl) rfl (Nat.le_of_ble_eq_true rfl) ?_
  intro p e s m args below meth c A hAe harg hx hb hr hml hts hown hlocks hin hP K hS hA1 hA ST hsz ls hl
  rw [← hAe]
  have F : CallFix p m c cX5_canBeDug 2 s args (bw yX5_canBeDug cX5_canBeDug 2 (some .boolean)) RX5 := ⟨hx, hb, hml, hown, hts⟩
  have hl : lv_has ls 2 [(0, .ref (o + pt)), (1, .int a1)] := hl
  have M_0 : dg_sm shX [] [] S S := dg_sm.rf
  refine lv_aload_n hx hb dX5_canBeDug_0 rfl (lv_at hl 0 rfl) ?_
  refine lv_iload_n hx hb dX5_canBeDug_1 rfl (lv_at hl 1 rfl) ?_
  refine dg_calli hS hA1 hA (va_runV (As := [.int a1]) (rest := []) F (c_p_isSolid l g D o S pt hk_pt a1 (by omega) hf_pt I s.heap.size) (cwV 1 hts (bw_V wB_490 wB_491 wB_492 wB_493 wB_489) rfl rfl rfl (by decide +kernel) ⟨Nat.le_of_ble_eq_true rfl, Nat.le_of_ble_eq_true rfl⟩) (dg_preV (pX_0 pt hk_pt) rfl K ST hP hS hA1 hA) rfl rfl hl.1 rfl (lv_room (Nat.le_of_ble_eq_true rfl)) dX5_canBeDug_2 ⟨Nat.le_of_ble_eq_true rfl, Nat.le_of_ble_eq_true rfl⟩) (fun x_1 S_2 hw_2 H locs hP hS => ?_)
  rw [hw_2.1] at hP
  obtain ⟨hq_2, w_2_0, w_2_1, w_2_2, w_2_3, -⟩ := hw_2
  rw [hq_2] at w_2_2
  have w_2_0 : 0 ≤ (x_1).toInt ∧ (x_1).toInt ≤ 1 := w_2_0
  have w_2_1 : (x_1).toInt = 1 → (8 ≤ (a1).toInt ∧ (a1).toInt ≤ 63) := w_2_1
  obtain ⟨x_3, f_x_3⟩ : ∃ x, S.2.1 (pt + 1) (a1 : Int32).toNatClampNeg = x := ⟨_, rfl⟩
  have hin_4 : vp_in (a1 : Int32) 72 := (dk_inv2 (by omega))
  have b_x_3 := dg_c0_at (dg_I.cel0 (lo := 0) (hi := 255) I (pX_1 pt hk_pt) (by decide +kernel)) hin_4 f_x_3.symm
  have w_2_2 : (x_1).toInt = 1 → (x_3).toInt ≤ 9 := w_2_2 x_3 f_x_3
  refine lv_if_eq (tgt := 20) hx hb dX5_canBeDug_5 (dk_dq rfl) (fun c_5 => ?_) (fun c_5 => ?_)
  · have jc_5 := dk_eqc (k := 0) (by decide +kernel) c_5
    refine lv_iconst (v := 0) hx hb dX5_canBeDug_20 (by decide +kernel) ?_
    have hz_6 : (0 : Int32).toInt = 0 := by decide +kernel
    have hz_7 : (0 : Int32).toInt = 0 := by decide +kernel
    refine W.widen (k := 0) (n := 0) (Nat.le_of_ble_eq_true rfl) (Nat.le_of_ble_eq_true rfl) ?_
    exact dg_iret hx hb hr hlocks (by decide +kernel) hP hS ⟨rfl, (by decide +kernel), (by omega), (Eq.symm (F_p_canBeDug_p0 w_2_3 c_5)), trivial⟩ dX5_canBeDug_21
  · as_aux_lemma =>
      have jc_5 := dk_neqc (k := 0) (by decide +kernel) c_5
      refine lv_aload_n hx hb dX5_canBeDug_8 rfl (lv_at hl 0 rfl) ?_
      refine lv_iload_n hx hb dX5_canBeDug_9 rfl (lv_at hl 1 rfl) ?_
      refine dg_calli hS hA1 hA (va_runV (As := [.int a1]) (rest := []) F (c_p_openBeside l g D o S pt hk_pt a1 (by omega) I H.size) (cwV 1 hts (bw_V wB_499 wB_500 wB_501 wB_493 wB_498) rfl rfl rfl (by decide +kernel) ⟨Nat.le_of_ble_eq_true rfl, Nat.le_of_ble_eq_true rfl⟩) (dg_preV (pX_0 pt hk_pt) rfl K ST hP hS hA1 hA) rfl rfl hl.1 rfl (lv_room (Nat.le_of_ble_eq_true rfl)) dX5_canBeDug_10 ⟨Nat.le_of_ble_eq_true rfl, Nat.le_of_ble_eq_true rfl⟩) (fun x_8 S_9 hw_9 H locs hP hS => ?_)
      rw [hw_9.1] at hP
      obtain ⟨hq_9, w_9_0, -⟩ := hw_9
      refine lv_if_le (tgt := 20) hx hb dX5_canBeDug_13 (dk_dq rfl) (fun c_10 => ?_) (fun c_10 => ?_)
      · have jc_10 := dk_lec (k := 0) (by decide +kernel) c_10
        refine lv_iconst (v := 0) hx hb dX5_canBeDug_20 (by decide +kernel) ?_
        have hz_11 : (0 : Int32).toInt = 0 := by decide +kernel
        have hz_12 : (0 : Int32).toInt = 0 := by decide +kernel
        refine W.widen (k := 0) (n := 0) (Nat.le_of_ble_eq_true rfl) (Nat.le_of_ble_eq_true rfl) ?_
        exact dg_iret hx hb hr hlocks (by decide +kernel) hP hS ⟨rfl, (by decide +kernel), (by omega), (Eq.symm (F_p_canBeDug_p1 w_2_3 c_5 w_9_0 c_10)), trivial⟩ dX5_canBeDug_21
      · have jc_10 := dk_nlec (k := 0) (by decide +kernel) c_10
        refine lv_iconst (v := 1) hx hb dX5_canBeDug_16 (by decide +kernel) ?_
        refine lv_goto (tgt := 21) hx hb dX5_canBeDug_17 (dk_dq rfl) ?_
        have hz_13 : (1 : Int32).toInt = 1 := by decide +kernel
        have hz_14 : (1 : Int32).toInt = 1 := by decide +kernel
        refine W.widen (k := 0) (n := 0) (Nat.le_of_ble_eq_true rfl) (Nat.le_of_ble_eq_true rfl) ?_
        exact dg_iret hx hb hr hlocks (by decide +kernel) hP hS ⟨rfl, (by decide +kernel), (by omega), (Eq.symm (F_p_canBeDug_p2 w_2_3 c_5 w_9_0 c_10)), trivial⟩ dX5_canBeDug_21
noncomputable def F_p_addTub (o : Nat) (S : dg_S) (pt : Nat) (a1 : Int32) : dg_S := let x_2 : Int32 := S.2.1 (pt + 6) (a1 : Int32).toNatClampNeg; let x_3 : Int32 := x_2 + (1 : Int32); let x_4 : Int32 := if x_3 < (99 : Int32) then x_3 else (99 : Int32); let S_6 : dg_S := dg_uf S (pt + 6) (upd (S.2.1 (pt + 6)) (a1 : Int32).toNatClampNeg x_4); (S_6)
theorem F_p_addTub_p0 {o : Nat} {S : dg_S} {pt : Nat} {a1 : Int32} {S_6 : dg_S} {x_2 : Int32} {x_3 : Int32} {x_4 : Int32} (h0 : x_2 = S.2.1 (pt + 6) (a1 : Int32).toNatClampNeg) (h1 : x_3 = x_2 + (1 : Int32)) (h2 : x_4 = if x_3 < (99 : Int32) then x_3 else (99 : Int32)) (h3 : S_6 = dg_uf S (pt + 6) (upd (S.2.1 (pt + 6)) (a1 : Int32).toNatClampNeg x_4)) : F_p_addTub o S pt a1 = S_6 := by
  replace h0 := Eq.symm h0
  subst h0
  replace h1 := Eq.symm h1
  subst h1
  replace h2 := Eq.symm h2
  subst h2
  replace h3 := Eq.symm h3
  subst h3
  exact rfl
set_option maxHeartbeats 8000000 in
set_option maxRecDepth 100000 in
theorem c_p_addTub (l : Launch) (g : Nat → ClassId) (D : va_G) (o : Nat) (S : dg_S) (pt : Nat) (hk_pt : pX pt) (a1 : Int32) (b_a1 : 0 ≤ (a1).toInt ∧ (a1).toInt ≤ 9) (I : CX o S) (sz : Nat) : Met l yX5_addTub (bw yX5_addTub cX5_addTub 2 none) ({ frames := 2, cells := 0, slots := 0, locals := 40 } : Room) (dk_Pc g D (dg_w g shX o rfX S) sz [.ref (o + pt), .int a1]) (va_Qv (fun S' => CX o S' ∧ dg_sm shX [] [9] S S' ∧ (S' = F_p_addTub o S pt a1) ∧ True) (dg_B g D shX o rfX) (dg_A o shX.length sz)) 0 0 (dg_A o shX.length sz) := by
  refine dg_met (cc := cX5_addTub) (maxL := 2) (ret := none) (dk_dq rfl) rfl (Nat.le_of_ble_eq_true rfl) ?_
  intro p e s m args below meth c A hAe harg hx hb hr hml hts hown hlocks hin hP K hS hA1 hA ST hsz ls hl
  rw [← hAe]
  have F : CallFix p m c cX5_addTub 2 s args (bw yX5_addTub cX5_addTub 2 none) RX5 := ⟨hx, hb, hml, hown, hts⟩
  have hl : lv_has ls 2 [(0, .ref (o + pt)), (1, .int a1)] := hl
  have M_0 : dg_sm shX [] [9] S S := dg_sm.rf
  refine lv_aload_n hx hb dX5_addTub_0 rfl (lv_at hl 0 rfl) ?_
  refine dg_get (C := RX5) (T := TX5) (N := 8) hx hb hts (fun w h => bw_mem (wU_X5 w h)) hown K hP (pX_0 pt hk_pt) rfl 7 (dk_dq rfl) (hts _ (bw_mem wB_502)) (fun _ h9 => h9) (v := .ref (o + (pt + 6))) (show S.1 pt 7 = .ref (o + (pt + 6)) from dg_I.rel (d := 6) I (pX_0 pt hk_pt) (by decide +kernel)) dX5_addTub_1 ?_
  refine lv_iload_n hx hb dX5_addTub_4 rfl (lv_at hl 1 rfl) ?_
  refine lv_bipush (v := 99) hx hb dX5_addTub_5 (by decide +kernel) ?_
  refine lv_aload_n hx hb dX5_addTub_7 rfl (lv_at hl 0 rfl) ?_
  refine dg_get (C := RX5) (T := TX5) (N := 8) hx hb hts (fun w h => bw_mem (wU_X5 w h)) hown K hP (pX_0 pt hk_pt) rfl 7 (dk_dq rfl) (hts _ (bw_mem wB_502)) (fun _ h9 => h9) (v := .ref (o + (pt + 6))) (show S.1 pt 7 = .ref (o + (pt + 6)) from dg_I.rel (d := 6) I (pX_0 pt hk_pt) (by decide +kernel)) dX5_addTub_8 ?_
  refine lv_iload_n hx hb dX5_addTub_11 rfl (lv_at hl 1 rfl) ?_
  have hin_1 : vp_in a1 10 := (dk_inv2 (by omega))
  refine dg_iald hx hb K hP (pX_6 pt hk_pt) hin_1 dX5_addTub_12 (fun x_2 ex_2 => ?_)
  refine lv_iconst (v := 1) hx hb dX5_addTub_13 (by decide +kernel) ?_
  refine lv_iadd hx hb dX5_addTub_14 ?_
  refine lv_topi (fun x_3 ex_3 => ?_)
  refine va_mmin hx hb (by rw [hml]; exact hl.1.symm) hown (hts _ (bw_mem wB_503)) (hts _ (bw_mem wB_504)) (hts _ (bw_mem wB_505)) (hts _ (bw_mem wB_506)) (Nat.le_of_ble_eq_true rfl) (Nat.le_of_ble_eq_true rfl) (Nat.le_of_ble_eq_true rfl) (Nat.le_of_ble_eq_true rfl) dX5_addTub_15 ?_
  refine lv_topi (fun x_4 ex_4 => ?_)
  have jx_4 := dk_minT (a := 99) (b := (x_3).toInt) (by decide +kernel) rfl ex_4
  have hin_5 : vp_in a1 10 := (dk_inv2 (by omega))
  refine dg_iast hx hb K hP hS hA1 (pX_6 pt hk_pt) hin_5 dX5_addTub_18 (fun S_6 e_6 H locs hP hS => ?_)
  have I_6 := dg_I.uf0 I e_6 (pX_6 pt hk_pt) (by decide +kernel)
  have M_6 := dg_sm.uf M_0 e_6 (pX_6 pt hk_pt) (dk_dq rfl)
  refine W.widen (k := 0) (n := 0) (Nat.le_of_ble_eq_true rfl) (Nat.le_of_ble_eq_true rfl) ?_
  exact dg_vret hx hb hr hlocks hP hS ⟨I_6, M_6, (Eq.symm (F_p_addTub_p0 (Eq.symm ex_2.symm) ex_3 ex_4 e_6)), trivial⟩ dX5_addTub_19
noncomputable def F_p_tubsFrom_B1 (S : dg_S) (pt : Nat) : (Int32 × Int32) → (Int32 × Int32) ⊕ (Int32) := fun w9 => match w9 with | (x_12, x_13) => (if (9 : Int32) < x_12 then (Sum.inr (x_13)) else let x_17 : Int32 := S.2.1 (pt + 6) (x_12 : Int32).toNatClampNeg; let x_18 : Int32 := x_13 + x_17; let x_19 : Int32 := x_12 + 1; (Sum.inl (x_19, x_18)))
noncomputable def F_p_tubsFrom (o : Nat) (S : dg_S) (pt : Nat) (a1 : Int32) : Int32 := (lp (F_p_tubsFrom_B1 S pt) (0 : Int32) ((11 - ((a1 : Int32)).toInt).toNat + 1) (a1, (0 : Int32)))
theorem F_p_tubsFrom_p0 {S : dg_S} {pt : Nat} {x_12 : Int32} {x_13 : Int32} (h0 : (9 : Int32) < x_12) : (F_p_tubsFrom_B1 S pt) (x_12, x_13) = Sum.inr (x_13) := (Eq.trans (if_pos h0) rfl)
theorem F_p_tubsFrom_p1 {S : dg_S} {pt : Nat} {x_12 : Int32} {x_13 : Int32} {x_19 : Int32} {x_18 : Int32} {x_17 : Int32} (h0 : ¬ ((9 : Int32) < x_12)) (h1 : x_17 = S.2.1 (pt + 6) (x_12 : Int32).toNatClampNeg) (h2 : x_18 = x_13 + x_17) (h3 : x_19 = x_12 + 1) : (F_p_tubsFrom_B1 S pt) (x_12, x_13) = Sum.inl (x_19, x_18) := by
  replace h1 := Eq.symm h1
  subst h1
  replace h2 := Eq.symm h2
  subst h2
  replace h3 := Eq.symm h3
  subst h3
  exact (Eq.trans (if_neg h0) rfl)
theorem F_p_tubsFrom_p2 {o : Nat} {S : dg_S} {pt : Nat} {a1 : Int32}  : F_p_tubsFrom o S pt a1 = lp (F_p_tubsFrom_B1 S pt) (0 : Int32) ((11 - ((a1 : Int32)).toInt).toNat + 1) (a1, (0 : Int32)) := rfl
set_option maxHeartbeats 8000000 in
set_option maxRecDepth 100000 in
theorem c_p_tubsFrom (l : Launch) (g : Nat → ClassId) (D : va_G) (o : Nat) (S : dg_S) (pt : Nat) (hk_pt : pX pt) (a1 : Int32) (b_a1 : 0 ≤ (a1).toInt ∧ (a1).toInt ≤ 9) (I : CX o S) (sz : Nat) : Met l yX5_tubsFrom (bw yX5_tubsFrom cX5_tubsFrom 4 (some .int)) ({ frames := 1, cells := 0, slots := 0, locals := 32 } : Room) (dk_Pc g D (dg_w g shX o rfX S) sz [.ref (o + pt), .int a1]) (va_Qi (fun (r : Int32) S' => S' = S ∧ (r = F_p_tubsFrom o S pt a1) ∧ True) (dg_B g D shX o rfX) (dg_A o shX.length sz)) 0 0 (dg_A o shX.length sz) := by
  refine dg_met (cc := cX5_tubsFrom) (maxL := 4) (ret := (some .int)) (dk_dq rfl) rfl (Nat.le_of_ble_eq_true rfl) ?_
  intro p e s m args below meth c A hAe harg hx hb hr hml hts hown hlocks hin hP K hS hA1 hA ST hsz ls hl
  rw [← hAe]
  have F : CallFix p m c cX5_tubsFrom 4 s args (bw yX5_tubsFrom cX5_tubsFrom 4 (some .int)) RX5 := ⟨hx, hb, hml, hown, hts⟩
  have hl : lv_has ls 4 [(0, .ref (o + pt)), (1, .int a1)] := hl
  have M_0 : dg_sm shX [] [] S S := dg_sm.rf
  refine lv_iconst (v := 0) hx hb dX5_tubsFrom_0 (by decide +kernel) ?_
  refine lv_istore_n (lv' := [(2, .int 0), (0, .ref (o + pt)), (1, .int a1)]) hx hb dX5_tubsFrom_1 rfl hl (dk_dq rfl) rfl (fun ls hl => ?_)
  refine lv_iload_n hx hb dX5_tubsFrom_2 rfl (lv_at hl 2 rfl) ?_
  refine lv_istore_n (lv' := [(3, .int a1), (2, .int 0), (0, .ref (o + pt)), (1, .int a1)]) hx hb dX5_tubsFrom_3 rfl hl (dk_dq rfl) rfl (fun ls hl => ?_)
  have L_14 : ∀ (n : Nat) (x_12 : Int32) (x_13 : Int32), (0 ≤ (x_12).toInt ∧ (x_12).toInt ≤ 10) → ((11 - (x_12).toInt).toNat < n) → (F_p_tubsFrom o S pt a1 = lp (F_p_tubsFrom_B1 S pt) (0 : Int32) n (x_12, x_13)) → ∀ (H : Heap) (locs : List Loc), va_P D vwCl (dg_w g shX o rfX S) H → va_S A s.heap H locs → ∀ ls : Array Slot, lv_has ls 4 [(3, .int x_12), (2, .int x_13), (0, .ref (o + pt)), (1, .int a1)] → W p l e ({ frames := 1, cells := 0, slots := 0, locals := 32 } : Room) s m args below meth c H locs 0 0 (MQ below (va_Qi (fun (r : Int32) S' => S' = S ∧ (r = F_p_tubsFrom o S pt a1) ∧ True) (dg_B g D shX o rfX) A) args s 0 0 A) (F0 m 4 ls []) := by
    as_aux_lemma =>
      intro n
      induction n with
      | zero =>
        intro x_12 x_13 b_x_12 hmu hF_1 H locs hP hS ls hl
        omega
      | succ n ih =>
        as_aux_lemma =>
          intro x_12 x_13 b_x_12 hmu hF_1 H locs hP hS ls hl
          refine lv_iload_n hx hb dX5_tubsFrom_4 rfl (lv_at hl 0 rfl) ?_
          refine lv_bipush (v := 9) hx hb dX5_tubsFrom_5 (by decide +kernel) ?_
          refine lv_icmp_gt (tgt := 25) hx hb dX5_tubsFrom_7 (dk_dq rfl) (fun c_15 => ?_) (fun c_15 => ?_)
          · have jc_15 := dk_gtc (k := 9) (by decide +kernel) c_15
            refine lv_iload_n hx hb dX5_tubsFrom_25 rfl (lv_at hl 1 rfl) ?_
            refine W.widen (k := 0) (n := 0) (Nat.le_of_ble_eq_true rfl) (Nat.le_of_ble_eq_true rfl) ?_
            exact dg_iret hx hb hr hlocks rfl hP hS ⟨rfl, (Eq.symm (lp_r hF_1 (F_p_tubsFrom_p0 c_15))), trivial⟩ dX5_tubsFrom_26
          · have jc_15 := dk_ngtc (k := 9) (by decide +kernel) c_15
            refine lv_iload_n hx hb dX5_tubsFrom_10 rfl (lv_at hl 1 rfl) ?_
            refine lv_aload_n hx hb dX5_tubsFrom_11 rfl (lv_at hl 2 rfl) ?_
            refine dg_get (C := RX5) (T := TX5) (N := 8) hx hb hts (fun w h => bw_mem (wU_X5 w h)) hown K hP (pX_0 pt hk_pt) rfl 7 (dk_dq rfl) (hts _ (bw_mem wB_502)) (fun _ h9 => h9) (v := .ref (o + (pt + 6))) (show S.1 pt 7 = .ref (o + (pt + 6)) from dg_I.rel (d := 6) I (pX_0 pt hk_pt) (by decide +kernel)) dX5_tubsFrom_12 ?_
            refine lv_iload_n hx hb dX5_tubsFrom_15 rfl (lv_at hl 0 rfl) ?_
            have hin_16 : vp_in x_12 10 := (dk_inv2 (by omega))
            refine dg_iald hx hb K hP (pX_6 pt hk_pt) hin_16 dX5_tubsFrom_16 (fun x_17 ex_17 => ?_)
            refine lv_iadd hx hb dX5_tubsFrom_17 ?_
            refine lv_topi (fun x_18 ex_18 => ?_)
            refine lv_istore_n (lv' := [(2, .int x_18), (3, .int x_12), (0, .ref (o + pt)), (1, .int a1)]) hx hb dX5_tubsFrom_18 rfl hl (dk_dq rfl) rfl (fun ls hl => ?_)
            obtain ⟨x_19, ex_19⟩ : ∃ z, z = x_12 + 1 := ⟨_, rfl⟩
            have jx_19 : (x_19).toInt = (x_12).toInt + 1 := by rw [ex_19]; exact dk_addT2 rfl (by decide +kernel) (by omega)
            refine lv_iinc (v := x_19) (lv' := [(3, .int x_19), (2, .int x_18), (0, .ref (o + pt)), (1, .int a1)]) hx hb dX5_tubsFrom_19 hl (k := 1) rfl (by rw [ex_19]; rfl) (dk_dq rfl) rfl (fun ls hl => ?_)
            refine lv_goto (tgt := 4) hx hb dX5_tubsFrom_22 (dk_dq rfl) ?_
            exact ih x_19 x_18 (by omega) (by first | exact mu_lt hmu (by omega) (by omega) | omega) (lp_l hF_1 (F_p_tubsFrom_p1 c_15 (Eq.symm ex_17.symm) ex_18 ex_19)) _ _ hP hS _ (lv_sub hl [0, 1, 2, 3] rfl)
  have hz_20 : (0 : Int32).toInt = 0 := by decide +kernel
  exact L_14 ((11 - ((a1 : Int32)).toInt).toNat + 1) a1 0 (by omega) (by first | exact mu_lt hmu (by omega) (by omega) | omega) (F_p_tubsFrom_p2) _ _ hP hS _ (lv_sub hl [0, 1, 2, 3] rfl)
noncomputable def F_p_giveTubs_B1 (pt : Nat) : (Int32 × Int32 × dg_S) → (Int32 × Int32 × dg_S) ⊕ (dg_S) := fun w9 => match w9 with | (x_25, x_26, S_27) => (if (9 : Int32) < x_25 then (Sum.inr ((S_27))) else let x_31 : Int32 := S_27.2.1 (pt + 6) (x_25 : Int32).toNatClampNeg; let x_32 : Int32 := if x_31 < x_26 then x_31 else x_26; let x_35 : Int32 := x_31 - x_32; let S_37 : dg_S := dg_uf S_27 (pt + 6) (upd (S_27.2.1 (pt + 6)) (x_25 : Int32).toNatClampNeg x_35); let x_38 : Int32 := x_26 - x_32; let x_39 : Int32 := x_25 + 1; (Sum.inl (x_39, x_38, S_37)))
noncomputable def F_p_giveTubs (o : Nat) (S : dg_S) (pt : Nat) (a1 : Int32) (a2 : Int32) : dg_S := (lp (F_p_giveTubs_B1 pt) S ((11 - ((a1 : Int32)).toInt).toNat + 1) (a1, a2, S))
theorem F_p_giveTubs_p0 {pt : Nat} {x_25 : Int32} {x_26 : Int32} {S_27 : dg_S} (h0 : (9 : Int32) < x_25) : (F_p_giveTubs_B1 pt) (x_25, x_26, S_27) = Sum.inr (S_27) := (Eq.trans (if_pos h0) rfl)
theorem F_p_giveTubs_p1 {pt : Nat} {x_25 : Int32} {x_26 : Int32} {S_27 : dg_S} {x_39 : Int32} {x_38 : Int32} {S_37 : dg_S} {x_31 : Int32} {x_32 : Int32} {x_35 : Int32} (h0 : ¬ ((9 : Int32) < x_25)) (h1 : x_31 = S_27.2.1 (pt + 6) (x_25 : Int32).toNatClampNeg) (h2 : x_32 = if x_31 < x_26 then x_31 else x_26) (h3 : x_35 = x_31 - x_32) (h4 : S_37 = dg_uf S_27 (pt + 6) (upd (S_27.2.1 (pt + 6)) (x_25 : Int32).toNatClampNeg x_35)) (h5 : x_38 = x_26 - x_32) (h6 : x_39 = x_25 + 1) : (F_p_giveTubs_B1 pt) (x_25, x_26, S_27) = Sum.inl (x_39, x_38, S_37) := by
  replace h1 := Eq.symm h1
  subst h1
  replace h2 := Eq.symm h2
  subst h2
  replace h3 := Eq.symm h3
  subst h3
  replace h4 := Eq.symm h4
  subst h4
  replace h5 := Eq.symm h5
  subst h5
  replace h6 := Eq.symm h6
  subst h6
  exact (Eq.trans (if_neg h0) rfl)
theorem F_p_giveTubs_p2 {o : Nat} {S : dg_S} {pt : Nat} {a1 : Int32} {a2 : Int32}  : F_p_giveTubs o S pt a1 a2 = lp (F_p_giveTubs_B1 pt) S ((11 - ((a1 : Int32)).toInt).toNat + 1) (a1, a2, S) := rfl
set_option maxHeartbeats 8000000 in
set_option maxRecDepth 100000 in
theorem c_p_giveTubs (l : Launch) (g : Nat → ClassId) (D : va_G) (o : Nat) (S : dg_S) (pt : Nat) (hk_pt : pX pt) (a1 : Int32) (b_a1 : 0 ≤ (a1).toInt ∧ (a1).toInt ≤ 9) (a2 : Int32) (I : CX o S) (sz : Nat) : Met l yX5_giveTubs (bw yX5_giveTubs cX5_giveTubs 6 none) ({ frames := 2, cells := 0, slots := 0, locals := 40 } : Room) (dk_Pc g D (dg_w g shX o rfX S) sz [.ref (o + pt), .int a1, .int a2]) (va_Qv (fun S' => CX o S' ∧ dg_sm shX [] [9] S S' ∧ (S' = F_p_giveTubs o S pt a1 a2) ∧ True) (dg_B g D shX o rfX) (dg_A o shX.length sz)) 0 0 (dg_A o shX.length sz) := by
  refine dg_met (cc := cX5_giveTubs) (maxL := 6) (ret := none) (dk_dq rfl) rfl (Nat.le_of_ble_eq_true rfl) ?_
  intro p e s m args below meth c A hAe harg hx hb hr hml hts hown hlocks hin hP K hS hA1 hA ST hsz ls hl
  rw [← hAe]
  have F : CallFix p m c cX5_giveTubs 6 s args (bw yX5_giveTubs cX5_giveTubs 6 none) RX5 := ⟨hx, hb, hml, hown, hts⟩
  have hl : lv_has ls 6 [(0, .ref (o + pt)), (1, .int a1), (2, .int a2)] := hl
  have M_0 : dg_sm shX [] [9] S S := dg_sm.rf
  refine lv_iload_n hx hb dX5_giveTubs_0 rfl (lv_at hl 2 rfl) ?_
  refine lv_istore_n (lv' := [(3, .int a2), (0, .ref (o + pt)), (1, .int a1), (2, .int a2)]) hx hb dX5_giveTubs_1 rfl hl (dk_dq rfl) rfl (fun ls hl => ?_)
  refine lv_iload_n hx hb dX5_giveTubs_2 rfl (lv_at hl 2 rfl) ?_
  refine lv_istore (lv' := [(4, .int a1), (3, .int a2), (0, .ref (o + pt)), (1, .int a1), (2, .int a2)]) hx hb dX5_giveTubs_3 hl (dk_dq rfl) rfl (fun ls hl => ?_)
  have L_28 : ∀ (n : Nat) (x_25 : Int32) (x_26 : Int32), (0 ≤ (x_25).toInt ∧ (x_25).toInt ≤ 10) → ((11 - (x_25).toInt).toNat < n) → ∀ S_27 : dg_S, CX o S_27 → dg_sm shX [] [9] S S_27 → (F_p_giveTubs o S pt a1 a2 = lp (F_p_giveTubs_B1 pt) S n (x_25, x_26, S_27)) → ∀ (H : Heap) (locs : List Loc), va_P D vwCl (dg_w g shX o rfX S_27) H → va_S A s.heap H locs → ∀ ls : Array Slot, lv_has ls 6 [(4, .int x_25), (3, .int x_26), (0, .ref (o + pt)), (1, .int a1), (2, .int a2)] → W p l e ({ frames := 2, cells := 0, slots := 0, locals := 40 } : Room) s m args below meth c H locs 0 0 (MQ below (va_Qv (fun S' => CX o S' ∧ dg_sm shX [] [9] S S' ∧ (S' = F_p_giveTubs o S pt a1 a2) ∧ True) (dg_B g D shX o rfX) A) args s 0 0 A) (F0 m 5 ls []) := by
    as_aux_lemma =>
      intro n
      induction n with
      | zero =>
        intro x_25 x_26 b_x_25 hmu S_27 I_27 M_27 hF_1 H locs hP hS ls hl
        omega
      | succ n ih =>
        as_aux_lemma =>
          intro x_25 x_26 b_x_25 hmu S_27 I_27 M_27 hF_1 H locs hP hS ls hl
          refine lv_iload hx hb dX5_giveTubs_5 (lv_at hl 0 rfl) ?_
          refine lv_bipush (v := 9) hx hb dX5_giveTubs_7 (by decide +kernel) ?_
          refine lv_icmp_gt (tgt := 48) hx hb dX5_giveTubs_9 (dk_dq rfl) (fun c_29 => ?_) (fun c_29 => ?_)
          · have jc_29 := dk_gtc (k := 9) (by decide +kernel) c_29
            refine W.widen (k := 0) (n := 0) (Nat.le_of_ble_eq_true rfl) (Nat.le_of_ble_eq_true rfl) ?_
            exact dg_vret hx hb hr hlocks hP hS ⟨I_27, M_27, (Eq.symm (lp_r hF_1 (F_p_giveTubs_p0 c_29))), trivial⟩ dX5_giveTubs_48
          · as_aux_lemma =>
              have jc_29 := dk_ngtc (k := 9) (by decide +kernel) c_29
              refine lv_iload_n hx hb dX5_giveTubs_12 rfl (lv_at hl 1 rfl) ?_
              refine lv_aload_n hx hb dX5_giveTubs_13 rfl (lv_at hl 2 rfl) ?_
              refine dg_get (C := RX5) (T := TX5) (N := 8) hx hb hts (fun w h => bw_mem (wU_X5 w h)) hown K hP (pX_0 pt hk_pt) rfl 7 (dk_dq rfl) (hts _ (bw_mem wB_502)) (fun _ h9 => h9) (v := .ref (o + (pt + 6))) (show S_27.1 pt 7 = .ref (o + (pt + 6)) from dg_I.rel (d := 6) I_27 (pX_0 pt hk_pt) (by decide +kernel)) dX5_giveTubs_14 ?_
              refine lv_iload hx hb dX5_giveTubs_17 (lv_at hl 0 rfl) ?_
              have hin_30 : vp_in x_25 10 := (dk_inv2 (by omega))
              refine dg_iald hx hb K hP (pX_6 pt hk_pt) hin_30 dX5_giveTubs_19 (fun x_31 ex_31 => ?_)
              refine va_mmin hx hb (by rw [hml]; exact hl.1.symm) hown (hts _ (bw_mem wB_503)) (hts _ (bw_mem wB_504)) (hts _ (bw_mem wB_505)) (hts _ (bw_mem wB_506)) (Nat.le_of_ble_eq_true rfl) (Nat.le_of_ble_eq_true rfl) (Nat.le_of_ble_eq_true rfl) (Nat.le_of_ble_eq_true rfl) dX5_giveTubs_20 ?_
              refine lv_topi (fun x_32 ex_32 => ?_)
              have jx_32 := dk_minT (a := (x_26).toInt) (b := (x_31).toInt) rfl rfl ex_32
              refine lv_istore (lv' := [(5, .int x_32), (4, .int x_25), (3, .int x_26), (0, .ref (o + pt)), (1, .int a1), (2, .int a2)]) hx hb dX5_giveTubs_23 hl (dk_dq rfl) rfl (fun ls hl => ?_)
              refine lv_aload_n hx hb dX5_giveTubs_25 rfl (lv_at hl 3 rfl) ?_
              refine dg_get (C := RX5) (T := TX5) (N := 8) hx hb hts (fun w h => bw_mem (wU_X5 w h)) hown K hP (pX_0 pt hk_pt) rfl 7 (dk_dq rfl) (hts _ (bw_mem wB_502)) (fun _ h9 => h9) (v := .ref (o + (pt + 6))) (show S_27.1 pt 7 = .ref (o + (pt + 6)) from dg_I.rel (d := 6) I_27 (pX_0 pt hk_pt) (by decide +kernel)) dX5_giveTubs_26 ?_
              refine lv_iload hx hb dX5_giveTubs_29 (lv_at hl 1 rfl) ?_
              refine lv_dup2_11 hx hb dX5_giveTubs_31 rfl rfl ?_
              have hin_33 : vp_in x_25 10 := (dk_inv2 (by omega))
              refine dg_iald hx hb K hP (pX_6 pt hk_pt) hin_33 dX5_giveTubs_32 (fun y_34 ey_34 => ?_)
              obtain rfl : x_31 = y_34 := (ey_34.trans ex_31.symm).symm
              refine lv_iload hx hb dX5_giveTubs_33 (lv_at hl 0 rfl) ?_
              refine lv_isub hx hb dX5_giveTubs_35 ?_
              refine lv_topi (fun x_35 ex_35 => ?_)
              have hin_36 : vp_in x_25 10 := (dk_inv2 (by omega))
              refine dg_iast hx hb K hP hS hA1 (pX_6 pt hk_pt) hin_36 dX5_giveTubs_36 (fun S_37 e_37 H locs hP hS => ?_)
              have I_37 := dg_I.uf0 I_27 e_37 (pX_6 pt hk_pt) (by decide +kernel)
              have M_37 := dg_sm.uf M_27 e_37 (pX_6 pt hk_pt) (dk_dq rfl)
              refine lv_iload_n hx hb dX5_giveTubs_37 rfl (lv_at hl 2 rfl) ?_
              refine lv_iload hx hb dX5_giveTubs_38 (lv_at hl 0 rfl) ?_
              refine lv_isub hx hb dX5_giveTubs_40 ?_
              refine lv_topi (fun x_38 ex_38 => ?_)
              refine lv_istore_n (lv' := [(3, .int x_38), (5, .int x_32), (4, .int x_25), (0, .ref (o + pt)), (1, .int a1), (2, .int a2)]) hx hb dX5_giveTubs_41 rfl hl (dk_dq rfl) rfl (fun ls hl => ?_)
              obtain ⟨x_39, ex_39⟩ : ∃ z, z = x_25 + 1 := ⟨_, rfl⟩
              have jx_39 : (x_39).toInt = (x_25).toInt + 1 := by rw [ex_39]; exact dk_addT2 rfl (by decide +kernel) (by omega)
              refine lv_iinc (v := x_39) (lv' := [(4, .int x_39), (3, .int x_38), (5, .int x_32), (0, .ref (o + pt)), (1, .int a1), (2, .int a2)]) hx hb dX5_giveTubs_42 hl (k := 2) rfl (by rw [ex_39]; rfl) (dk_dq rfl) rfl (fun ls hl => ?_)
              refine lv_goto (tgt := 5) hx hb dX5_giveTubs_45 (dk_dq rfl) ?_
              exact ih x_39 x_38 (by omega) (by first | exact mu_lt hmu (by omega) (by omega) | omega) S_37 I_37 M_37  (lp_l hF_1 (F_p_giveTubs_p1 c_29 (Eq.symm ex_31.symm) ex_32 ex_35 e_37 ex_38 ex_39)) _ _ hP hS _ (lv_sub hl [0, 1, 3, 4, 5] rfl)
  exact L_28 ((11 - ((a1 : Int32)).toInt).toNat + 1) a1 a2 (by omega) (by first | exact mu_lt hmu (by omega) (by omega) | omega) S I M_0  (F_p_giveTubs_p2) _ _ hP hS _ (lv_sub hl [0, 1, 2, 3, 4] rfl)
noncomputable def F_p_tubGrades_B1 (S : dg_S) (pt : Nat) : (Int32 × Int32) → (Int32 × Int32) ⊕ (Int32) := fun w9 => match w9 with | (x_35, x_36) => (if (9 : Int32) < x_35 then (Sum.inr (x_36)) else let x_40 : Int32 := S.2.1 (pt + 6) (x_35 : Int32).toNatClampNeg; let x_41 : Int32 := x_35 * x_40; let x_42 : Int32 := x_36 + x_41; let x_43 : Int32 := x_35 + 1; (Sum.inl (x_43, x_42)))
noncomputable def F_p_tubGrades (o : Nat) (S : dg_S) (pt : Nat) : Int32 := (lp (F_p_tubGrades_B1 S pt) (0 : Int32) ((11 - ((0 : Int32)).toInt).toNat + 1) ((0 : Int32), (0 : Int32)))
theorem F_p_tubGrades_p0 {S : dg_S} {pt : Nat} {x_35 : Int32} {x_36 : Int32} (h0 : (9 : Int32) < x_35) : (F_p_tubGrades_B1 S pt) (x_35, x_36) = Sum.inr (x_36) := (Eq.trans (if_pos h0) rfl)
theorem F_p_tubGrades_p1 {S : dg_S} {pt : Nat} {x_35 : Int32} {x_36 : Int32} {x_43 : Int32} {x_42 : Int32} {x_40 : Int32} {x_41 : Int32} (h0 : ¬ ((9 : Int32) < x_35)) (h1 : x_40 = S.2.1 (pt + 6) (x_35 : Int32).toNatClampNeg) (h2 : x_41 = x_35 * x_40) (h3 : x_42 = x_36 + x_41) (h4 : x_43 = x_35 + 1) : (F_p_tubGrades_B1 S pt) (x_35, x_36) = Sum.inl (x_43, x_42) := by
  replace h1 := Eq.symm h1
  subst h1
  replace h2 := Eq.symm h2
  subst h2
  replace h3 := Eq.symm h3
  subst h3
  replace h4 := Eq.symm h4
  subst h4
  exact (Eq.trans (if_neg h0) rfl)
theorem F_p_tubGrades_p2 {o : Nat} {S : dg_S} {pt : Nat}  : F_p_tubGrades o S pt = lp (F_p_tubGrades_B1 S pt) (0 : Int32) ((11 - ((0 : Int32)).toInt).toNat + 1) ((0 : Int32), (0 : Int32)) := rfl
set_option maxHeartbeats 8000000 in
set_option maxRecDepth 100000 in
theorem c_p_tubGrades (l : Launch) (g : Nat → ClassId) (D : va_G) (o : Nat) (S : dg_S) (pt : Nat) (hk_pt : pX pt) (I : CX o S) (sz : Nat) : Met l yX5_tubGrades (bw yX5_tubGrades cX5_tubGrades 3 (some .int)) ({ frames := 1, cells := 0, slots := 0, locals := 32 } : Room) (dk_Pc g D (dg_w g shX o rfX S) sz [.ref (o + pt)]) (va_Qi (fun (r : Int32) S' => S' = S ∧ (r = F_p_tubGrades o S pt) ∧ True) (dg_B g D shX o rfX) (dg_A o shX.length sz)) 0 0 (dg_A o shX.length sz) := by
  refine dg_met (cc := cX5_tubGrades) (maxL := 3) (ret := (some .int)) (dk_dq rfl) rfl (Nat.le_of_ble_eq_true rfl) ?_
  intro p e s m args below meth c A hAe harg hx hb hr hml hts hown hlocks hin hP K hS hA1 hA ST hsz ls hl
  rw [← hAe]
  have F : CallFix p m c cX5_tubGrades 3 s args (bw yX5_tubGrades cX5_tubGrades 3 (some .int)) RX5 := ⟨hx, hb, hml, hown, hts⟩
  have hl : lv_has ls 3 [(0, .ref (o + pt))] := hl
  have M_0 : dg_sm shX [] [] S S := dg_sm.rf
  refine lv_iconst (v := 0) hx hb dX5_tubGrades_0 (by decide +kernel) ?_
  refine lv_istore_n (lv' := [(1, .int 0), (0, .ref (o + pt))]) hx hb dX5_tubGrades_1 rfl hl (dk_dq rfl) rfl (fun ls hl => ?_)
  refine lv_iconst (v := 0) hx hb dX5_tubGrades_2 (by decide +kernel) ?_
  refine lv_istore_n (lv' := [(2, .int 0), (1, .int 0), (0, .ref (o + pt))]) hx hb dX5_tubGrades_3 rfl hl (dk_dq rfl) rfl (fun ls hl => ?_)
  have L_37 : ∀ (n : Nat) (x_35 : Int32) (x_36 : Int32), (0 ≤ (x_35).toInt ∧ (x_35).toInt ≤ 10) → ((11 - (x_35).toInt).toNat < n) → (F_p_tubGrades o S pt = lp (F_p_tubGrades_B1 S pt) (0 : Int32) n (x_35, x_36)) → ∀ (H : Heap) (locs : List Loc), va_P D vwCl (dg_w g shX o rfX S) H → va_S A s.heap H locs → ∀ ls : Array Slot, lv_has ls 3 [(2, .int x_35), (1, .int x_36), (0, .ref (o + pt))] → W p l e ({ frames := 1, cells := 0, slots := 0, locals := 32 } : Room) s m args below meth c H locs 0 0 (MQ below (va_Qi (fun (r : Int32) S' => S' = S ∧ (r = F_p_tubGrades o S pt) ∧ True) (dg_B g D shX o rfX) A) args s 0 0 A) (F0 m 4 ls []) := by
    as_aux_lemma =>
      intro n
      induction n with
      | zero =>
        intro x_35 x_36 b_x_35 hmu hF_1 H locs hP hS ls hl
        omega
      | succ n ih =>
        as_aux_lemma =>
          intro x_35 x_36 b_x_35 hmu hF_1 H locs hP hS ls hl
          refine lv_iload_n hx hb dX5_tubGrades_4 rfl (lv_at hl 0 rfl) ?_
          refine lv_bipush (v := 9) hx hb dX5_tubGrades_5 (by decide +kernel) ?_
          refine lv_icmp_gt (tgt := 27) hx hb dX5_tubGrades_7 (dk_dq rfl) (fun c_38 => ?_) (fun c_38 => ?_)
          · have jc_38 := dk_gtc (k := 9) (by decide +kernel) c_38
            refine lv_iload_n hx hb dX5_tubGrades_27 rfl (lv_at hl 1 rfl) ?_
            refine W.widen (k := 0) (n := 0) (Nat.le_of_ble_eq_true rfl) (Nat.le_of_ble_eq_true rfl) ?_
            exact dg_iret hx hb hr hlocks rfl hP hS ⟨rfl, (Eq.symm (lp_r hF_1 (F_p_tubGrades_p0 c_38))), trivial⟩ dX5_tubGrades_28
          · as_aux_lemma =>
              have jc_38 := dk_ngtc (k := 9) (by decide +kernel) c_38
              refine lv_iload_n hx hb dX5_tubGrades_10 rfl (lv_at hl 1 rfl) ?_
              refine lv_iload_n hx hb dX5_tubGrades_11 rfl (lv_at hl 0 rfl) ?_
              refine lv_aload_n hx hb dX5_tubGrades_12 rfl (lv_at hl 2 rfl) ?_
              refine dg_get (C := RX5) (T := TX5) (N := 8) hx hb hts (fun w h => bw_mem (wU_X5 w h)) hown K hP (pX_0 pt hk_pt) rfl 7 (dk_dq rfl) (hts _ (bw_mem wB_502)) (fun _ h9 => h9) (v := .ref (o + (pt + 6))) (show S.1 pt 7 = .ref (o + (pt + 6)) from dg_I.rel (d := 6) I (pX_0 pt hk_pt) (by decide +kernel)) dX5_tubGrades_13 ?_
              refine lv_iload_n hx hb dX5_tubGrades_16 rfl (lv_at hl 0 rfl) ?_
              have hin_39 : vp_in x_35 10 := (dk_inv2 (by omega))
              refine dg_iald hx hb K hP (pX_6 pt hk_pt) hin_39 dX5_tubGrades_17 (fun x_40 ex_40 => ?_)
              refine lv_imul hx hb dX5_tubGrades_18 ?_
              refine lv_topi (fun x_41 ex_41 => ?_)
              refine lv_iadd hx hb dX5_tubGrades_19 ?_
              refine lv_topi (fun x_42 ex_42 => ?_)
              refine lv_istore_n (lv' := [(1, .int x_42), (2, .int x_35), (0, .ref (o + pt))]) hx hb dX5_tubGrades_20 rfl hl (dk_dq rfl) rfl (fun ls hl => ?_)
              obtain ⟨x_43, ex_43⟩ : ∃ z, z = x_35 + 1 := ⟨_, rfl⟩
              have jx_43 : (x_43).toInt = (x_35).toInt + 1 := by rw [ex_43]; exact dk_addT2 rfl (by decide +kernel) (by omega)
              refine lv_iinc (v := x_43) (lv' := [(2, .int x_43), (1, .int x_42), (0, .ref (o + pt))]) hx hb dX5_tubGrades_21 hl (k := 1) rfl (by rw [ex_43]; rfl) (dk_dq rfl) rfl (fun ls hl => ?_)
              refine lv_goto (tgt := 4) hx hb dX5_tubGrades_24 (dk_dq rfl) ?_
              exact ih x_43 x_42 (by omega) (by first | exact mu_lt hmu (by omega) (by omega) | omega) (lp_l hF_1 (F_p_tubGrades_p1 c_38 (Eq.symm ex_40.symm) ex_41 ex_42 ex_43)) _ _ hP hS _ (lv_sub hl [0, 1, 2] rfl)
  have hz_44 : (0 : Int32).toInt = 0 := by decide +kernel
  have hz_45 : (0 : Int32).toInt = 0 := by decide +kernel
  have hz_46 : (0 : Int32).toInt = 0 := by decide +kernel
  exact L_37 ((11 - ((0 : Int32)).toInt).toNat + 1) 0 0 (by decide +kernel) (by first | exact mu_lt hmu (by omega) (by omega) | omega) (F_p_tubGrades_p2) _ _ hP hS _ (lv_sub hl [0, 1, 2] rfl)
noncomputable def F_p_wholeWorth_J2 (x_64 : Int32) (x_76 : Int32) : (Int32 × Int32) ⊕ (Int32) := let x_79 : Int32 := x_64 + 1; (Sum.inl (x_79, x_76))
noncomputable def F_p_wholeWorth_B1 (o : Nat) (S : dg_S) (pt : Nat) : (Int32 × Int32) → (Int32 × Int32) ⊕ (Int32) := fun w9 => match w9 with | (x_64, x_65) => (if (72 : Int32) ≤ x_64 then (Sum.inr (x_65)) else let x_68 : Int32 := F_p_isSolid0 o S pt x_64; let x_70 : Int32 := S.2.1 (pt + 1) (x_64 : Int32).toNatClampNeg; (if x_68 = (0 : Int32) then (F_p_wholeWorth_J2 x_64 x_65) else let x_83 : Int32 := x_65 + x_70; (F_p_wholeWorth_J2 x_64 x_83)))
noncomputable def F_p_wholeWorth (o : Nat) (S : dg_S) (pt : Nat) : Int32 := let x_1 : Int32 := F_p_tubGrades o S pt; (lp (F_p_wholeWorth_B1 o S pt) (0 : Int32) ((73 - ((0 : Int32)).toInt).toNat + 1) ((0 : Int32), x_1))
theorem F_p_wholeWorth_p0 {o : Nat} {S : dg_S} {pt : Nat} {x_64 : Int32} {x_65 : Int32} (h0 : (72 : Int32) ≤ x_64) : (F_p_wholeWorth_B1 o S pt) (x_64, x_65) = Sum.inr (x_65) := (Eq.trans (if_pos h0) rfl)
theorem F_p_wholeWorth_p1 {x_64 : Int32} {x_76 : Int32} {x_79 : Int32} (h0 : x_79 = x_64 + 1) : F_p_wholeWorth_J2 x_64 x_76 = Sum.inl (x_79, x_76) := by
  replace h0 := Eq.symm h0
  subst h0
  exact rfl
theorem F_p_wholeWorth_p2 {o : Nat} {S : dg_S} {pt : Nat} {x_64 : Int32} {x_65 : Int32} {x_68 : Int32} (h0 : ¬ ((72 : Int32) ≤ x_64)) (h1 : x_68 = F_p_isSolid0 o S pt x_64) (h2 : x_68 = (0 : Int32)) : (F_p_wholeWorth_B1 o S pt) (x_64, x_65) = F_p_wholeWorth_J2 x_64 x_65 := by
  replace h1 := Eq.symm h1
  subst h1
  exact (Eq.trans (if_neg h0) (Eq.trans (if_pos h2) rfl))
theorem F_p_wholeWorth_p3 {o : Nat} {S : dg_S} {pt : Nat} {x_64 : Int32} {x_65 : Int32} {x_83 : Int32} {x_68 : Int32} {x_70 : Int32} (h0 : ¬ ((72 : Int32) ≤ x_64)) (h1 : x_68 = F_p_isSolid0 o S pt x_64) (h2 : x_70 = S.2.1 (pt + 1) (x_64 : Int32).toNatClampNeg) (h3 : ¬ (x_68 = (0 : Int32))) (h4 : x_83 = x_65 + x_70) : (F_p_wholeWorth_B1 o S pt) (x_64, x_65) = F_p_wholeWorth_J2 x_64 x_83 := by
  replace h1 := Eq.symm h1
  subst h1
  replace h2 := Eq.symm h2
  subst h2
  replace h4 := Eq.symm h4
  subst h4
  exact (Eq.trans (if_neg h0) (Eq.trans (if_neg h3) rfl))
theorem F_p_wholeWorth_p4 {o : Nat} {S : dg_S} {pt : Nat} {x_1 : Int32} (h0 : x_1 = F_p_tubGrades o S pt) : F_p_wholeWorth o S pt = lp (F_p_wholeWorth_B1 o S pt) (0 : Int32) ((73 - ((0 : Int32)).toInt).toNat + 1) ((0 : Int32), x_1) := by
  replace h0 := Eq.symm h0
  subst h0
  exact rfl
set_option maxHeartbeats 8000000 in
set_option maxRecDepth 100000 in
theorem c_p_wholeWorth (l : Launch) (g : Nat → ClassId) (D : va_G) (o : Nat) (S : dg_S) (pt : Nat) (hk_pt : pX pt) (I : CX o S) (sz : Nat) : Met l yX5_wholeWorth (bw yX5_wholeWorth cX5_wholeWorth 3 (some .int)) ({ frames := 2, cells := 0, slots := 0, locals := 54 } : Room) (dk_Pc g D (dg_w g shX o rfX S) sz [.ref (o + pt)]) (va_Qi (fun (r : Int32) S' => S' = S ∧ (r = F_p_wholeWorth o S pt) ∧ True) (dg_B g D shX o rfX) (dg_A o shX.length sz)) 0 0 (dg_A o shX.length sz) := by
  refine dg_met (cc := cX5_wholeWorth) (maxL := 3) (ret := (some .int)) (dk_dq rfl) rfl (Nat.le_of_ble_eq_true rfl) ?_
  intro p e s m args below meth c A hAe harg hx hb hr hml hts hown hlocks hin hP K hS hA1 hA ST hsz ls hl
  rw [← hAe]
  have F : CallFix p m c cX5_wholeWorth 3 s args (bw yX5_wholeWorth cX5_wholeWorth 3 (some .int)) RX5 := ⟨hx, hb, hml, hown, hts⟩
  have hl : lv_has ls 3 [(0, .ref (o + pt))] := hl
  have M_0 : dg_sm shX [] [] S S := dg_sm.rf
  refine lv_aload_n hx hb dX5_wholeWorth_0 rfl (lv_at hl 0 rfl) ?_
  refine dg_calli hS hA1 hA (va_runV (As := []) (rest := []) F (c_p_tubGrades l g D o S pt hk_pt I s.heap.size) (cwV 0 hts (bw_V wB_508 wB_509 wB_510 wB_493 wB_507) rfl rfl rfl (by decide +kernel) ⟨Nat.le_of_ble_eq_true rfl, Nat.le_of_ble_eq_true rfl⟩) (dg_preV (pX_0 pt hk_pt) rfl K ST hP hS hA1 hA) rfl rfl hl.1 rfl (lv_room (Nat.le_of_ble_eq_true rfl)) dX5_wholeWorth_1 ⟨Nat.le_of_ble_eq_true rfl, Nat.le_of_ble_eq_true rfl⟩) (fun x_1 S_2 hw_2 H locs hP hS => ?_)
  rw [hw_2.1] at hP
  obtain ⟨hq_2, w_2_0, -⟩ := hw_2
  refine lv_istore_n (lv' := [(1, .int x_1), (0, .ref (o + pt))]) hx hb dX5_wholeWorth_4 rfl hl (dk_dq rfl) rfl (fun ls hl => ?_)
  refine lv_iconst (v := 0) hx hb dX5_wholeWorth_5 (by decide +kernel) ?_
  refine lv_istore_n (lv' := [(2, .int 0), (1, .int x_1), (0, .ref (o + pt))]) hx hb dX5_wholeWorth_6 rfl hl (dk_dq rfl) rfl (fun ls hl => ?_)
  have L_66 : ∀ (n : Nat) (x_64 : Int32) (x_65 : Int32), (0 ≤ (x_64).toInt ∧ (x_64).toInt ≤ 72) → ((73 - (x_64).toInt).toNat < n) → (F_p_wholeWorth o S pt = lp (F_p_wholeWorth_B1 o S pt) (0 : Int32) n (x_64, x_65)) → ∀ (H : Heap) (locs : List Loc), va_P D vwCl (dg_w g shX o rfX S) H → va_S A s.heap H locs → ∀ ls : Array Slot, lv_has ls 3 [(2, .int x_64), (1, .int x_65), (0, .ref (o + pt))] → W p l e ({ frames := 2, cells := 0, slots := 0, locals := 54 } : Room) s m args below meth c H locs 0 0 (MQ below (va_Qi (fun (r : Int32) S' => S' = S ∧ (r = F_p_wholeWorth o S pt) ∧ True) (dg_B g D shX o rfX) A) args s 0 0 A) (F0 m 7 ls []) := by
    as_aux_lemma =>
      intro n
      induction n with
      | zero =>
        intro x_64 x_65 b_x_64 hmu hF_1 H locs hP hS ls hl
        omega
      | succ n ih =>
        as_aux_lemma =>
          intro x_64 x_65 b_x_64 hmu hF_1 H locs hP hS ls hl
          refine lv_iload_n hx hb dX5_wholeWorth_7 rfl (lv_at hl 0 rfl) ?_
          refine lv_bipush (v := 72) hx hb dX5_wholeWorth_8 (by decide +kernel) ?_
          refine lv_icmp_ge (tgt := 36) hx hb dX5_wholeWorth_10 (dk_dq rfl) (fun c_67 => ?_) (fun c_67 => ?_)
          · have jc_67 := dk_gec (k := 72) (by decide +kernel) c_67
            refine lv_iload_n hx hb dX5_wholeWorth_36 rfl (lv_at hl 1 rfl) ?_
            refine W.widen (k := 0) (n := 0) (Nat.le_of_ble_eq_true rfl) (Nat.le_of_ble_eq_true rfl) ?_
            exact dg_iret hx hb hr hlocks rfl hP hS ⟨rfl, (Eq.symm (lp_r hF_1 (F_p_wholeWorth_p0 c_67))), trivial⟩ dX5_wholeWorth_37
          · as_aux_lemma =>
              have jc_67 := dk_ngec (k := 72) (by decide +kernel) c_67
              refine lv_aload_n hx hb dX5_wholeWorth_13 rfl (lv_at hl 2 rfl) ?_
              refine lv_iload_n hx hb dX5_wholeWorth_14 rfl (lv_at hl 0 rfl) ?_
              refine dg_calli hS hA1 hA (va_runV (As := [.int x_64]) (rest := []) F (c_p_isSolid0 l g D o S pt hk_pt x_64 (by omega) I H.size) (cwV 1 hts (bw_V wB_490 wB_491 wB_492 wB_493 wB_489) rfl rfl rfl (by decide +kernel) ⟨Nat.le_of_ble_eq_true rfl, Nat.le_of_ble_eq_true rfl⟩) (dg_preV (pX_0 pt hk_pt) rfl K ST hP hS hA1 hA) rfl rfl hl.1 rfl (lv_room (Nat.le_of_ble_eq_true rfl)) dX5_wholeWorth_15 ⟨Nat.le_of_ble_eq_true rfl, Nat.le_of_ble_eq_true rfl⟩) (fun x_68 S_69 hw_69 H locs hP hS => ?_)
              rw [hw_69.1] at hP
              obtain ⟨hq_69, w_69_0, w_69_1, w_69_2, -⟩ := hw_69
              rw [hq_69] at w_69_1
              have w_69_0 : 0 ≤ (x_68).toInt ∧ (x_68).toInt ≤ 1 := w_69_0
              obtain ⟨x_70, f_x_70⟩ : ∃ x, S.2.1 (pt + 1) (x_64 : Int32).toNatClampNeg = x := ⟨_, rfl⟩
              have hin_71 : vp_in (x_64 : Int32) 72 := (dk_inv2 (by omega))
              have b_x_70 := dg_c0_at (dg_I.cel0 (lo := 0) (hi := 255) I (pX_1 pt hk_pt) (by decide +kernel)) hin_71 f_x_70.symm
              have w_69_1 : (x_68).toInt = 1 → (x_70).toInt ≤ 9 := w_69_1 x_70 f_x_70
              have J_78 : ∀ (x_76 : Int32), ((F_p_wholeWorth_B1 o S pt) (x_64, x_65) = F_p_wholeWorth_J2 x_64 x_76) → ∀ (H : Heap) (locs : List Loc), va_P D vwCl (dg_w g shX o rfX S) H → va_S A s.heap H locs → ∀ ls : Array Slot, lv_has ls 3 [(2, .int x_64), (1, .int x_76), (0, .ref (o + pt))] → W p l e ({ frames := 2, cells := 0, slots := 0, locals := 54 } : Room) s m args below meth c H locs 0 0 (MQ below (va_Qi (fun (r : Int32) S' => S' = S ∧ (r = F_p_wholeWorth o S pt) ∧ True) (dg_B g D shX o rfX) A) args s 0 0 A) (F0 m 30 ls []) := by
                intro x_76 hF_2 H locs hP hS ls hl
                obtain ⟨x_79, ex_79⟩ : ∃ z, z = x_64 + 1 := ⟨_, rfl⟩
                have jx_79 : (x_79).toInt = (x_64).toInt + 1 := by rw [ex_79]; exact dk_addT2 rfl (by decide +kernel) (by omega)
                refine lv_iinc (v := x_79) (lv' := [(2, .int x_79), (1, .int x_76), (0, .ref (o + pt))]) hx hb dX5_wholeWorth_30 hl (k := 0) rfl (by rw [ex_79]; rfl) (dk_dq rfl) rfl (fun ls hl => ?_)
                refine lv_goto (tgt := 7) hx hb dX5_wholeWorth_33 (dk_dq rfl) ?_
                exact ih x_79 x_76 (by omega) (by first | exact mu_lt hmu (by omega) (by omega) | omega) (lp_l hF_1 (Eq.trans hF_2 (F_p_wholeWorth_p1 ex_79))) _ _ hP hS _ (lv_sub hl [0, 1, 2] rfl)
              refine lv_if_eq (tgt := 30) hx hb dX5_wholeWorth_18 (dk_dq rfl) (fun c_80 => ?_) (fun c_80 => ?_)
              · have jc_80 := dk_eqc (k := 0) (by decide +kernel) c_80
                exact J_78 x_65  (F_p_wholeWorth_p2 c_67 w_69_2 c_80) _ _ hP hS _ (lv_sub hl [0, 1, 2] rfl)
              · have jc_80 := dk_neqc (k := 0) (by decide +kernel) c_80
                refine lv_iload_n hx hb dX5_wholeWorth_21 rfl (lv_at hl 1 rfl) ?_
                refine lv_aload_n hx hb dX5_wholeWorth_22 rfl (lv_at hl 2 rfl) ?_
                refine dg_get (C := RX5) (T := TX5) (N := 8) hx hb hts (fun w h => bw_mem (wU_X5 w h)) hown K hP (pX_0 pt hk_pt) rfl 2 (dk_dq rfl) (hts _ (bw_mem wB_488)) (fun _ h9 => h9) (v := .ref (o + (pt + 1))) (show S.1 pt 2 = .ref (o + (pt + 1)) from dg_I.rel (d := 1) I (pX_0 pt hk_pt) (by decide +kernel)) dX5_wholeWorth_23 ?_
                refine lv_iload_n hx hb dX5_wholeWorth_26 rfl (lv_at hl 0 rfl) ?_
                have hin_81 : vp_in x_64 72 := (dk_inv2 (by omega))
                refine dg_iald hx hb K hP (pX_1 pt hk_pt) hin_81 dX5_wholeWorth_27 (fun y_82 ey_82 => ?_)
                obtain rfl : x_70 = y_82 := (ey_82.trans f_x_70).symm
                refine lv_iadd hx hb dX5_wholeWorth_28 ?_
                refine lv_topi (fun x_83 ex_83 => ?_)
                refine lv_istore_n (lv' := [(1, .int x_83), (2, .int x_64), (0, .ref (o + pt))]) hx hb dX5_wholeWorth_29 rfl hl (dk_dq rfl) rfl (fun ls hl => ?_)
                exact J_78 x_83  (F_p_wholeWorth_p3 c_67 w_69_2 (Eq.symm f_x_70) c_80 ex_83) _ _ hP hS _ (lv_sub hl [1, 0, 2] rfl)
  have hz_84 : (0 : Int32).toInt = 0 := by decide +kernel
  have hz_85 : (0 : Int32).toInt = 0 := by decide +kernel
  exact L_66 ((73 - ((0 : Int32)).toInt).toNat + 1) 0 x_1 (by decide +kernel) (by first | exact mu_lt hmu (by omega) (by omega) | omega) (F_p_wholeWorth_p4 w_2_0) _ _ hP hS _ (lv_sub hl [0, 1, 2] rfl)
noncomputable def F_p_changeRows_J1 (S_16 : dg_S) : dg_S := (S_16)
noncomputable def F_p_changeRows (o : Nat) (S : dg_S) (pt : Nat) (a1 : Int32) (a2 : Int32) : dg_S := let x_2 : Int32 := S.2.1 (pt + 3) (a1 : Int32).toNatClampNeg; let x_4 : Int32 := S.2.1 (pt + 4) (a1 : Int32).toNatClampNeg; let x_6 : Int32 := S.2.1 (pt + 3) (a2 : Int32).toNatClampNeg; let S_8 : dg_S := dg_uf S (pt + 3) (upd (S.2.1 (pt + 3)) (a1 : Int32).toNatClampNeg x_6); let x_10 : Int32 := S_8.2.1 (pt + 4) (a2 : Int32).toNatClampNeg; let S_12 : dg_S := dg_uf S_8 (pt + 4) (upd (S_8.2.1 (pt + 4)) (a1 : Int32).toNatClampNeg x_10); let S_14 : dg_S := dg_uf S_12 (pt + 3) (upd (S_12.2.1 (pt + 3)) (a2 : Int32).toNatClampNeg x_2); let S_16 : dg_S := dg_uf S_14 (pt + 4) (upd (S_14.2.1 (pt + 4)) (a2 : Int32).toNatClampNeg x_4); (F_p_changeRows_J1 S_16)
theorem F_p_changeRows_p0 {S_16 : dg_S}  : F_p_changeRows_J1 S_16 = S_16 := rfl
theorem F_p_changeRows_p1 {o : Nat} {S : dg_S} {pt : Nat} {a1 : Int32} {a2 : Int32} {S_16 : dg_S} {x_2 : Int32} {x_4 : Int32} {x_6 : Int32} {S_8 : dg_S} {x_10 : Int32} {S_12 : dg_S} {S_14 : dg_S} (h0 : x_2 = S.2.1 (pt + 3) (a1 : Int32).toNatClampNeg) (h1 : x_4 = S.2.1 (pt + 4) (a1 : Int32).toNatClampNeg) (h2 : x_6 = S.2.1 (pt + 3) (a2 : Int32).toNatClampNeg) (h3 : S_8 = dg_uf S (pt + 3) (upd (S.2.1 (pt + 3)) (a1 : Int32).toNatClampNeg x_6)) (h4 : x_10 = S_8.2.1 (pt + 4) (a2 : Int32).toNatClampNeg) (h5 : S_12 = dg_uf S_8 (pt + 4) (upd (S_8.2.1 (pt + 4)) (a1 : Int32).toNatClampNeg x_10)) (h6 : S_14 = dg_uf S_12 (pt + 3) (upd (S_12.2.1 (pt + 3)) (a2 : Int32).toNatClampNeg x_2)) (h7 : S_16 = dg_uf S_14 (pt + 4) (upd (S_14.2.1 (pt + 4)) (a2 : Int32).toNatClampNeg x_4)) : F_p_changeRows o S pt a1 a2 = F_p_changeRows_J1 S_16 := by
  replace h0 := Eq.symm h0
  subst h0
  replace h1 := Eq.symm h1
  subst h1
  replace h2 := Eq.symm h2
  subst h2
  replace h3 := Eq.symm h3
  subst h3
  replace h4 := Eq.symm h4
  subst h4
  replace h5 := Eq.symm h5
  subst h5
  replace h6 := Eq.symm h6
  subst h6
  replace h7 := Eq.symm h7
  subst h7
  exact rfl
set_option maxHeartbeats 8000000 in
set_option maxRecDepth 100000 in
theorem c_p_changeRows (l : Launch) (g : Nat → ClassId) (D : va_G) (o : Nat) (S : dg_S) (pt : Nat) (hk_pt : pX pt) (a1 : Int32) (b_a1 : 0 ≤ (a1).toInt ∧ (a1).toInt ≤ 15) (a2 : Int32) (b_a2 : 0 ≤ (a2).toInt ∧ (a2).toInt ≤ 15) (I : CX o S) (sz : Nat) : Met l yX5_changeRows (bw yX5_changeRows cX5_changeRows 5 none) ({ frames := 1, cells := 0, slots := 0, locals := 32 } : Room) (dk_Pc g D (dg_w g shX o rfX S) sz [.ref (o + pt), .int a1, .int a2]) (va_Qv (fun S' => CX o S' ∧ dg_sm shX [] [6, 7] S S' ∧ (S' = F_p_changeRows o S pt a1 a2) ∧ True) (dg_B g D shX o rfX) (dg_A o shX.length sz)) 0 0 (dg_A o shX.length sz) := by
  refine dg_met (cc := cX5_changeRows) (maxL := 5) (ret := none) (dk_dq rfl) rfl (Nat.le_of_ble_eq_true rfl) ?_
  intro p e s m args below meth c A hAe harg hx hb hr hml hts hown hlocks hin hP K hS hA1 hA ST hsz ls hl
  rw [← hAe]
  have F : CallFix p m c cX5_changeRows 5 s args (bw yX5_changeRows cX5_changeRows 5 none) RX5 := ⟨hx, hb, hml, hown, hts⟩
  have hl : lv_has ls 5 [(0, .ref (o + pt)), (1, .int a1), (2, .int a2)] := hl
  have M_0 : dg_sm shX [] [6, 7] S S := dg_sm.rf
  refine lv_aload_n hx hb dX5_changeRows_0 rfl (lv_at hl 0 rfl) ?_
  refine dg_get (C := RX5) (T := TX5) (N := 8) hx hb hts (fun w h => bw_mem (wU_X5 w h)) hown K hP (pX_0 pt hk_pt) rfl 4 (dk_dq rfl) (hts _ (bw_mem wB_511)) (fun _ h9 => h9) (v := .ref (o + (pt + 3))) (show S.1 pt 4 = .ref (o + (pt + 3)) from dg_I.rel (d := 3) I (pX_0 pt hk_pt) (by decide +kernel)) dX5_changeRows_1 ?_
  refine lv_iload_n hx hb dX5_changeRows_4 rfl (lv_at hl 1 rfl) ?_
  have hin_1 : vp_in a1 16 := (dk_inv2 (by omega))
  refine dg_iald hx hb K hP (pX_3 pt hk_pt) hin_1 dX5_changeRows_5 (fun x_2 ex_2 => ?_)
  have b_x_2 := dk_all_at (dg_I.row (lo := 0) (hi := 5) I (pX_3 pt hk_pt) (by decide +kernel)) hin_1 ex_2
  refine lv_istore_n (lv' := [(3, .int x_2), (0, .ref (o + pt)), (1, .int a1), (2, .int a2)]) hx hb dX5_changeRows_6 rfl hl (dk_dq rfl) rfl (fun ls hl => ?_)
  refine lv_aload_n hx hb dX5_changeRows_7 rfl (lv_at hl 1 rfl) ?_
  refine dg_get (C := RX5) (T := TX5) (N := 8) hx hb hts (fun w h => bw_mem (wU_X5 w h)) hown K hP (pX_0 pt hk_pt) rfl 5 (dk_dq rfl) (hts _ (bw_mem wB_512)) (fun _ h9 => h9) (v := .ref (o + (pt + 4))) (show S.1 pt 5 = .ref (o + (pt + 4)) from dg_I.rel (d := 4) I (pX_0 pt hk_pt) (by decide +kernel)) dX5_changeRows_8 ?_
  refine lv_iload_n hx hb dX5_changeRows_11 rfl (lv_at hl 2 rfl) ?_
  have hin_3 : vp_in a1 16 := (dk_inv2 (by omega))
  refine dg_iald hx hb K hP (pX_4 pt hk_pt) hin_3 dX5_changeRows_12 (fun x_4 ex_4 => ?_)
  have b_x_4 := dk_all_at (dg_I.row (lo := 0) (hi := 63) I (pX_4 pt hk_pt) (by decide +kernel)) hin_3 ex_4
  refine lv_istore (lv' := [(4, .int x_4), (3, .int x_2), (0, .ref (o + pt)), (1, .int a1), (2, .int a2)]) hx hb dX5_changeRows_13 hl (dk_dq rfl) rfl (fun ls hl => ?_)
  refine lv_aload_n hx hb dX5_changeRows_15 rfl (lv_at hl 2 rfl) ?_
  refine dg_get (C := RX5) (T := TX5) (N := 8) hx hb hts (fun w h => bw_mem (wU_X5 w h)) hown K hP (pX_0 pt hk_pt) rfl 4 (dk_dq rfl) (hts _ (bw_mem wB_511)) (fun _ h9 => h9) (v := .ref (o + (pt + 3))) (show S.1 pt 4 = .ref (o + (pt + 3)) from dg_I.rel (d := 3) I (pX_0 pt hk_pt) (by decide +kernel)) dX5_changeRows_16 ?_
  refine lv_iload_n hx hb dX5_changeRows_19 rfl (lv_at hl 3 rfl) ?_
  refine lv_aload_n hx hb dX5_changeRows_20 rfl (lv_at hl 2 rfl) ?_
  refine dg_get (C := RX5) (T := TX5) (N := 8) hx hb hts (fun w h => bw_mem (wU_X5 w h)) hown K hP (pX_0 pt hk_pt) rfl 4 (dk_dq rfl) (hts _ (bw_mem wB_511)) (fun _ h9 => h9) (v := .ref (o + (pt + 3))) (show S.1 pt 4 = .ref (o + (pt + 3)) from dg_I.rel (d := 3) I (pX_0 pt hk_pt) (by decide +kernel)) dX5_changeRows_21 ?_
  refine lv_iload_n hx hb dX5_changeRows_24 rfl (lv_at hl 4 rfl) ?_
  have hin_5 : vp_in a2 16 := (dk_inv2 (by omega))
  refine dg_iald hx hb K hP (pX_3 pt hk_pt) hin_5 dX5_changeRows_25 (fun x_6 ex_6 => ?_)
  have b_x_6 := dk_all_at (dg_I.row (lo := 0) (hi := 5) I (pX_3 pt hk_pt) (by decide +kernel)) hin_5 ex_6
  have hin_7 : vp_in a1 16 := (dk_inv2 (by omega))
  refine dg_iast hx hb K hP hS hA1 (pX_3 pt hk_pt) hin_7 dX5_changeRows_26 (fun S_8 e_8 H locs hP hS => ?_)
  have I_8 := dg_I.ufu (lo := 0) (hi := 5) I e_8 (pX_3 pt hk_pt) (by decide +kernel) (show 0 ≤ (x_6).toInt ∧ (x_6).toInt ≤ 5 from (by omega))
  have M_8 := dg_sm.uf M_0 e_8 (pX_3 pt hk_pt) (dk_dq rfl)
  refine lv_aload_n hx hb dX5_changeRows_27 rfl (lv_at hl 2 rfl) ?_
  refine dg_get (C := RX5) (T := TX5) (N := 8) hx hb hts (fun w h => bw_mem (wU_X5 w h)) hown K hP (pX_0 pt hk_pt) rfl 5 (dk_dq rfl) (hts _ (bw_mem wB_512)) (fun _ h9 => h9) (v := .ref (o + (pt + 4))) (show S_8.1 pt 5 = .ref (o + (pt + 4)) from dg_I.rel (d := 4) I_8 (pX_0 pt hk_pt) (by decide +kernel)) dX5_changeRows_28 ?_
  refine lv_iload_n hx hb dX5_changeRows_31 rfl (lv_at hl 3 rfl) ?_
  refine lv_aload_n hx hb dX5_changeRows_32 rfl (lv_at hl 2 rfl) ?_
  refine dg_get (C := RX5) (T := TX5) (N := 8) hx hb hts (fun w h => bw_mem (wU_X5 w h)) hown K hP (pX_0 pt hk_pt) rfl 5 (dk_dq rfl) (hts _ (bw_mem wB_512)) (fun _ h9 => h9) (v := .ref (o + (pt + 4))) (show S_8.1 pt 5 = .ref (o + (pt + 4)) from dg_I.rel (d := 4) I_8 (pX_0 pt hk_pt) (by decide +kernel)) dX5_changeRows_33 ?_
  refine lv_iload_n hx hb dX5_changeRows_36 rfl (lv_at hl 4 rfl) ?_
  have hin_9 : vp_in a2 16 := (dk_inv2 (by omega))
  as_aux_lemma =>
    refine dg_iald hx hb K hP (pX_4 pt hk_pt) hin_9 dX5_changeRows_37 (fun x_10 ex_10 => ?_)
    have b_x_10 := dk_all_at (dg_I.row (lo := 0) (hi := 63) I_8 (pX_4 pt hk_pt) (by decide +kernel)) hin_9 ex_10
    have hin_11 : vp_in a1 16 := (dk_inv2 (by omega))
    refine dg_iast hx hb K hP hS hA1 (pX_4 pt hk_pt) hin_11 dX5_changeRows_38 (fun S_12 e_12 H locs hP hS => ?_)
    have I_12 := dg_I.ufu (lo := 0) (hi := 63) I_8 e_12 (pX_4 pt hk_pt) (by decide +kernel) (show 0 ≤ (x_10).toInt ∧ (x_10).toInt ≤ 63 from (by omega))
    have M_12 := dg_sm.uf M_8 e_12 (pX_4 pt hk_pt) (dk_dq rfl)
    refine lv_aload_n hx hb dX5_changeRows_39 rfl (lv_at hl 2 rfl) ?_
    refine dg_get (C := RX5) (T := TX5) (N := 8) hx hb hts (fun w h => bw_mem (wU_X5 w h)) hown K hP (pX_0 pt hk_pt) rfl 4 (dk_dq rfl) (hts _ (bw_mem wB_511)) (fun _ h9 => h9) (v := .ref (o + (pt + 3))) (show S_12.1 pt 4 = .ref (o + (pt + 3)) from dg_I.rel (d := 3) I_12 (pX_0 pt hk_pt) (by decide +kernel)) dX5_changeRows_40 ?_
    refine lv_iload_n hx hb dX5_changeRows_43 rfl (lv_at hl 4 rfl) ?_
    refine lv_iload_n hx hb dX5_changeRows_44 rfl (lv_at hl 1 rfl) ?_
    have hin_13 : vp_in a2 16 := (dk_inv2 (by omega))
    refine dg_iast hx hb K hP hS hA1 (pX_3 pt hk_pt) hin_13 dX5_changeRows_45 (fun S_14 e_14 H locs hP hS => ?_)
    have I_14 := dg_I.ufu (lo := 0) (hi := 5) I_12 e_14 (pX_3 pt hk_pt) (by decide +kernel) (show 0 ≤ (x_2).toInt ∧ (x_2).toInt ≤ 5 from (by omega))
    have M_14 := dg_sm.uf M_12 e_14 (pX_3 pt hk_pt) (dk_dq rfl)
    refine lv_aload_n hx hb dX5_changeRows_46 rfl (lv_at hl 2 rfl) ?_
    refine dg_get (C := RX5) (T := TX5) (N := 8) hx hb hts (fun w h => bw_mem (wU_X5 w h)) hown K hP (pX_0 pt hk_pt) rfl 5 (dk_dq rfl) (hts _ (bw_mem wB_512)) (fun _ h9 => h9) (v := .ref (o + (pt + 4))) (show S_14.1 pt 5 = .ref (o + (pt + 4)) from dg_I.rel (d := 4) I_14 (pX_0 pt hk_pt) (by decide +kernel)) dX5_changeRows_47 ?_
    refine lv_iload_n hx hb dX5_changeRows_50 rfl (lv_at hl 4 rfl) ?_
    refine lv_iload hx hb dX5_changeRows_51 (lv_at hl 0 rfl) ?_
    have hin_15 : vp_in a2 16 := (dk_inv2 (by omega))
    refine dg_iast hx hb K hP hS hA1 (pX_4 pt hk_pt) hin_15 dX5_changeRows_53 (fun S_16 e_16 H locs hP hS => ?_)
    have I_16 := dg_I.ufu (lo := 0) (hi := 63) I_14 e_16 (pX_4 pt hk_pt) (by decide +kernel) (show 0 ≤ (x_4).toInt ∧ (x_4).toInt ≤ 63 from (by omega))
    have M_16 := dg_sm.uf M_14 e_16 (pX_4 pt hk_pt) (dk_dq rfl)
    have hF_1 : F_p_changeRows o S pt a1 a2 = F_p_changeRows_J1 S_16 := (F_p_changeRows_p1 (Eq.symm ex_2.symm) (Eq.symm ex_4.symm) (Eq.symm ex_6.symm) e_8 (Eq.symm ex_10.symm) e_12 e_14 e_16)
    refine W.widen (k := 0) (n := 0) (Nat.le_of_ble_eq_true rfl) (Nat.le_of_ble_eq_true rfl) ?_
    exact dg_vret hx hb hr hlocks hP hS ⟨I_16, M_16, (Eq.symm (Eq.trans hF_1 (F_p_changeRows_p0))), trivial⟩ dX5_changeRows_54
noncomputable def F_p_copy_J2 (S_45 : dg_S) : dg_S := (S_45)
noncomputable def F_p_copy_J1 (S_17 : dg_S) (pt : Nat) (po : Nat) : dg_S := let S_24 : dg_S := dg_uf S_17 (pt + 3) (va_cpy (S_17.2.1 (po + 3)) (S_17.2.1 (pt + 3)) (0 : Int32).toNatClampNeg (0 : Int32).toNatClampNeg (16 : Int32).toNatClampNeg); let S_31 : dg_S := dg_uf S_24 (pt + 4) (va_cpy (S_24.2.1 (po + 4)) (S_24.2.1 (pt + 4)) (0 : Int32).toNatClampNeg (0 : Int32).toNatClampNeg (16 : Int32).toNatClampNeg); let S_38 : dg_S := dg_uf S_31 (pt + 5) (va_cpy (S_31.2.1 (po + 5)) (S_31.2.1 (pt + 5)) (0 : Int32).toNatClampNeg (0 : Int32).toNatClampNeg (5 : Int32).toNatClampNeg); let S_45 : dg_S := dg_uf S_38 (pt + 6) (va_cpy (S_38.2.1 (po + 6)) (S_38.2.1 (pt + 6)) (0 : Int32).toNatClampNeg (0 : Int32).toNatClampNeg (10 : Int32).toNatClampNeg); (F_p_copy_J2 S_45)
noncomputable def F_p_copy (o : Nat) (S : dg_S) (pt : Nat) (po : Nat) : dg_S := let x_1 : Int32 := zI S po 0; let S_2 : dg_S := dg_uF S pt 0 (.int x_1); let x_3 : Int32 := zI S_2 po 1; let S_4 : dg_S := dg_uF S_2 pt 1 (.int x_3); let S_10 : dg_S := dg_uf S_4 (pt + 1) (va_cpy (S_4.2.1 (po + 1)) (S_4.2.1 (pt + 1)) (0 : Int32).toNatClampNeg (0 : Int32).toNatClampNeg (72 : Int32).toNatClampNeg); let S_17 : dg_S := dg_uf S_10 (pt + 2) (va_cpy (S_10.2.1 (po + 2)) (S_10.2.1 (pt + 2)) (0 : Int32).toNatClampNeg (0 : Int32).toNatClampNeg (6 : Int32).toNatClampNeg); (F_p_copy_J1 S_17 pt po)
theorem F_p_copy_p0 {S_45 : dg_S}  : F_p_copy_J2 S_45 = S_45 := rfl
theorem F_p_copy_p1 {S_17 : dg_S} {pt : Nat} {po : Nat} {S_45 : dg_S} {S_24 : dg_S} {S_31 : dg_S} {S_38 : dg_S} (h0 : S_24 = dg_uf S_17 (pt + 3) (va_cpy (S_17.2.1 (po + 3)) (S_17.2.1 (pt + 3)) (0 : Int32).toNatClampNeg (0 : Int32).toNatClampNeg (16 : Int32).toNatClampNeg)) (h1 : S_31 = dg_uf S_24 (pt + 4) (va_cpy (S_24.2.1 (po + 4)) (S_24.2.1 (pt + 4)) (0 : Int32).toNatClampNeg (0 : Int32).toNatClampNeg (16 : Int32).toNatClampNeg)) (h2 : S_38 = dg_uf S_31 (pt + 5) (va_cpy (S_31.2.1 (po + 5)) (S_31.2.1 (pt + 5)) (0 : Int32).toNatClampNeg (0 : Int32).toNatClampNeg (5 : Int32).toNatClampNeg)) (h3 : S_45 = dg_uf S_38 (pt + 6) (va_cpy (S_38.2.1 (po + 6)) (S_38.2.1 (pt + 6)) (0 : Int32).toNatClampNeg (0 : Int32).toNatClampNeg (10 : Int32).toNatClampNeg)) : F_p_copy_J1 S_17 pt po = F_p_copy_J2 S_45 := by
  replace h0 := Eq.symm h0
  subst h0
  replace h1 := Eq.symm h1
  subst h1
  replace h2 := Eq.symm h2
  subst h2
  replace h3 := Eq.symm h3
  subst h3
  exact rfl
theorem F_p_copy_p2 {o : Nat} {S : dg_S} {pt : Nat} {po : Nat} {S_17 : dg_S} {x_1 : Int32} {S_2 : dg_S} {x_3 : Int32} {S_4 : dg_S} {S_10 : dg_S} (h0 : x_1 = zI S po 0) (h1 : S_2 = dg_uF S pt 0 (.int x_1)) (h2 : x_3 = zI S_2 po 1) (h3 : S_4 = dg_uF S_2 pt 1 (.int x_3)) (h4 : S_10 = dg_uf S_4 (pt + 1) (va_cpy (S_4.2.1 (po + 1)) (S_4.2.1 (pt + 1)) (0 : Int32).toNatClampNeg (0 : Int32).toNatClampNeg (72 : Int32).toNatClampNeg)) (h5 : S_17 = dg_uf S_10 (pt + 2) (va_cpy (S_10.2.1 (po + 2)) (S_10.2.1 (pt + 2)) (0 : Int32).toNatClampNeg (0 : Int32).toNatClampNeg (6 : Int32).toNatClampNeg)) : F_p_copy o S pt po = F_p_copy_J1 S_17 pt po := by
  replace h0 := Eq.symm h0
  subst h0
  replace h1 := Eq.symm h1
  subst h1
  replace h2 := Eq.symm h2
  subst h2
  replace h3 := Eq.symm h3
  subst h3
  replace h4 := Eq.symm h4
  subst h4
  replace h5 := Eq.symm h5
  subst h5
  exact rfl
set_option maxHeartbeats 8000000 in
set_option maxRecDepth 100000 in
theorem c_p_copy (l : Launch) (g : Nat → ClassId) (D : va_G) (o : Nat) (S : dg_S) (pt : Nat) (hk_pt : pX pt) (po : Nat) (hk_po : pX po) (hf_po : dg_fil S po) (I : CX o S) (sz : Nat) : Met l yX5_copy (bw yX5_copy cX5_copy 2 none) ({ frames := 2, cells := 0, slots := 0, locals := 40 } : Room) (dk_Pc g D (dg_w g shX o rfX S) sz [.ref (o + pt), .ref (o + po)]) (va_Qv (fun S' => CX o S' ∧ dg_sm shX [(3, 0), (3, 1)] [4, 5, 6, 7, 8, 9] S S' ∧ dg_fil S' pt ∧ dg_FG S S' ∧ (S' = F_p_copy o S pt po) ∧ True) (dg_B g D shX o rfX) (dg_A o shX.length sz)) 0 0 (dg_A o shX.length sz) := by
  refine dg_met (cc := cX5_copy) (maxL := 2) (ret := none) (dk_dq rfl) rfl (Nat.le_of_ble_eq_true rfl) ?_
  intro p e s m args below meth c A hAe harg hx hb hr hml hts hown hlocks hin hP K hS hA1 hA ST hsz ls hl
  rw [← hAe]
  have F : CallFix p m c cX5_copy 2 s args (bw yX5_copy cX5_copy 2 none) RX5 := ⟨hx, hb, hml, hown, hts⟩
  have hl : lv_has ls 2 [(0, .ref (o + pt)), (1, .ref (o + po))] := hl
  have M_0 : dg_sm shX [(3, 0), (3, 1)] [4, 5, 6, 7, 8, 9] S S := dg_sm.rf
  refine lv_aload_n hx hb dX5_copy_0 rfl (lv_at hl 0 rfl) ?_
  refine lv_aload_n hx hb dX5_copy_1 rfl (lv_at hl 1 rfl) ?_
  obtain ⟨x_1, f_x_1, b_x_1⟩ := dg_I.int (i := po) (k := 0) (lo := 0) (hi := 65535) I (pX_0 po hk_po) (by decide +kernel)
  refine dg_get (C := RX5) (T := TX5) (N := 8) hx hb hts (fun w h => bw_mem (wU_X5 w h)) hown K hP (pX_0 po hk_po) rfl 0 (dk_dq rfl) (hts _ (bw_mem wB_513)) (fun _ h9 => h9) (v := .int x_1) f_x_1 dX5_copy_2 ?_
  refine dg_put (ci := 5) (v := .int x_1) (ty := tyX5 0) (C := RX5) (T := TX5) (N := 8) hx hb hts (fun w h => bw_mem (wU_X5 w h)) tyX5 tyX5_ok nmX5 hown K hP hS hA1 (pX_0 pt hk_pt) rfl 0 (dk_dq rfl) (hts _ (bw_mem wB_513)) (fun _ h9 => h9) rfl (by decide +kernel) rfl rfl dX5_copy_5 (fun S_2 e_2 H locs hP hS => ?_)
  have I_2 := dg_I.uFi (lo := 0) (hi := 65535) I e_2 (pX_0 pt hk_pt) (by decide +kernel) (show 0 ≤ (x_1).toInt ∧ (x_1).toInt ≤ 65535 from (by omega))
  have M_2 := dg_sm.uF M_0 e_2 (pX_0 pt hk_pt) (dk_dq rfl)
  refine lv_aload_n hx hb dX5_copy_8 rfl (lv_at hl 0 rfl) ?_
  refine lv_aload_n hx hb dX5_copy_9 rfl (lv_at hl 1 rfl) ?_
  obtain ⟨x_3, f_x_3, b_x_3⟩ := dg_I.int (i := po) (k := 1) (lo := (-2147483648)) (hi := 2147483647) I_2 (pX_0 po hk_po) (by decide +kernel)
  refine dg_get (C := RX5) (T := TX5) (N := 8) hx hb hts (fun w h => bw_mem (wU_X5 w h)) hown K hP (pX_0 po hk_po) rfl 1 (dk_dq rfl) (hts _ (bw_mem wB_514)) (fun _ h9 => h9) (v := .int x_3) f_x_3 dX5_copy_10 ?_
  refine dg_put (ci := 5) (v := .int x_3) (ty := tyX5 1) (C := RX5) (T := TX5) (N := 8) hx hb hts (fun w h => bw_mem (wU_X5 w h)) tyX5 tyX5_ok nmX5 hown K hP hS hA1 (pX_0 pt hk_pt) rfl 1 (dk_dq rfl) (hts _ (bw_mem wB_514)) (fun _ h9 => h9) rfl (by decide +kernel) rfl rfl dX5_copy_13 (fun S_4 e_4 H locs hP hS => ?_)
  have I_4 := dg_I.uFi (lo := (-2147483648)) (hi := 2147483647) I_2 e_4 (pX_0 pt hk_pt) (by decide +kernel) (show (-2147483648) ≤ (x_3).toInt ∧ (x_3).toInt ≤ 2147483647 from (dk_full _))
  have M_4 := dg_sm.uF M_2 e_4 (pX_0 pt hk_pt) (dk_dq rfl)
  refine lv_aload_n hx hb dX5_copy_16 rfl (lv_at hl 1 rfl) ?_
  refine dg_get (C := RX5) (T := TX5) (N := 8) hx hb hts (fun w h => bw_mem (wU_X5 w h)) hown K hP (pX_0 po hk_po) rfl 2 (dk_dq rfl) (hts _ (bw_mem wB_488)) (fun _ h9 => h9) (v := .ref (o + (po + 1))) (show S_4.1 po 2 = .ref (o + (po + 1)) from dg_I.rel (d := 1) I_4 (pX_0 po hk_po) (by decide +kernel)) dX5_copy_17 ?_
  refine lv_iconst (v := 0) hx hb dX5_copy_20 (by decide +kernel) ?_
  refine lv_aload_n hx hb dX5_copy_21 rfl (lv_at hl 0 rfl) ?_
  refine dg_get (C := RX5) (T := TX5) (N := 8) hx hb hts (fun w h => bw_mem (wU_X5 w h)) hown K hP (pX_0 pt hk_pt) rfl 2 (dk_dq rfl) (hts _ (bw_mem wB_488)) (fun _ h9 => h9) (v := .ref (o + (pt + 1))) (show S_4.1 pt 2 = .ref (o + (pt + 1)) from dg_I.rel (d := 1) I_4 (pX_0 pt hk_pt) (by decide +kernel)) dX5_copy_22 ?_
  refine lv_iconst (v := 0) hx hb dX5_copy_25 (by decide +kernel) ?_
  refine lv_bipush (v := 72) hx hb dX5_copy_26 (by decide +kernel) ?_
  have hz_5 : (72 : Int32).toInt = 72 := by decide +kernel
  have hz_6 : (0 : Int32).toInt = 0 := by decide +kernel
  have hz_7 : (0 : Int32).toInt = 0 := by decide +kernel
  have hc_8 : (0 : Int32).toInt + (72 : Int32).toInt ≤ ((72 : Nat) : Int) := by omega
  have hc_9 : (0 : Int32).toInt + (72 : Int32).toInt ≤ ((72 : Nat) : Int) := by omega
  refine dg_copyi hx hb (by rw [hml]; exact hl.1.symm) hown (hts _ (bw_mem wB_515)) (hts _ (bw_mem wB_516)) (hts _ (bw_mem wB_517)) (hts _ (bw_mem wB_518)) K hP hS hA1 (pX_1 po hk_po) (pX_1 pt hk_pt) (by omega) (by omega) (by omega) hc_8 hc_9 (Nat.le_of_ble_eq_true rfl) (Nat.le_of_ble_eq_true rfl) dX5_copy_28 (fun S_10 e_10 H locs hP hS => ?_)
  have hc_11 : (0 : Int32).toNatClampNeg + (72 : Int32).toNatClampNeg ≤ 72 := by rw [dk_clN, dk_clN]; omega
  have I_10 := dg_I.ufcp (lo := 0) (hi := 255) I_4 e_10 (pX_1 pt hk_pt) (by decide +kernel) (dg_I.cel2 (lo := 0) (hi := 255) I_4 (pX_1 po hk_po) (by decide +kernel)) (by decide +kernel) (by decide +kernel) (by decide +kernel) (by decide +kernel)
  have gs_10 : dg_FG S_4 S_10 := dg_FG.cp (d := pt) e_10 ((dg_FG.tr (dg_FG.uF e_2) (dg_FG.uF e_4)) po hk_po hf_po) (by decide +kernel) (by decide +kernel) (by decide +kernel)
  have fi_10 : dg_fil S_10 pt := dg_fil.cp e_10 ((dg_FG.tr (dg_FG.uF e_2) (dg_FG.uF e_4)) po hk_po hf_po) (by decide +kernel) (by decide +kernel) (by decide +kernel)
  have M_10 := dg_sm.uf M_4 e_10 (pX_1 pt hk_pt) (dk_dq rfl)
  refine lv_aload_n hx hb dX5_copy_31 rfl (lv_at hl 1 rfl) ?_
  refine dg_get (C := RX5) (T := TX5) (N := 8) hx hb hts (fun w h => bw_mem (wU_X5 w h)) hown K hP (pX_0 po hk_po) rfl 3 (dk_dq rfl) (hts _ (bw_mem wB_519)) (fun _ h9 => h9) (v := .ref (o + (po + 2))) (show S_10.1 po 3 = .ref (o + (po + 2)) from dg_I.rel (d := 2) I_10 (pX_0 po hk_po) (by decide +kernel)) dX5_copy_32 ?_
  as_aux_lemma =>
    refine lv_iconst (v := 0) hx hb dX5_copy_35 (by decide +kernel) ?_
    refine lv_aload_n hx hb dX5_copy_36 rfl (lv_at hl 0 rfl) ?_
    refine dg_get (C := RX5) (T := TX5) (N := 8) hx hb hts (fun w h => bw_mem (wU_X5 w h)) hown K hP (pX_0 pt hk_pt) rfl 3 (dk_dq rfl) (hts _ (bw_mem wB_519)) (fun _ h9 => h9) (v := .ref (o + (pt + 2))) (show S_10.1 pt 3 = .ref (o + (pt + 2)) from dg_I.rel (d := 2) I_10 (pX_0 pt hk_pt) (by decide +kernel)) dX5_copy_37 ?_
    refine lv_iconst (v := 0) hx hb dX5_copy_40 (by decide +kernel) ?_
    refine lv_bipush (v := 6) hx hb dX5_copy_41 (by decide +kernel) ?_
    have hz_12 : (6 : Int32).toInt = 6 := by decide +kernel
    have hz_13 : (0 : Int32).toInt = 0 := by decide +kernel
    have hz_14 : (0 : Int32).toInt = 0 := by decide +kernel
    have hc_15 : (0 : Int32).toInt + (6 : Int32).toInt ≤ ((6 : Nat) : Int) := by omega
    have hc_16 : (0 : Int32).toInt + (6 : Int32).toInt ≤ ((6 : Nat) : Int) := by omega
    refine dg_copyi hx hb (by rw [hml]; exact hl.1.symm) hown (hts _ (bw_mem wB_515)) (hts _ (bw_mem wB_516)) (hts _ (bw_mem wB_517)) (hts _ (bw_mem wB_518)) K hP hS hA1 (pX_2 po hk_po) (pX_2 pt hk_pt) (by omega) (by omega) (by omega) hc_15 hc_16 (Nat.le_of_ble_eq_true rfl) (Nat.le_of_ble_eq_true rfl) dX5_copy_43 (fun S_17 e_17 H locs hP hS => ?_)
    have hc_18 : (0 : Int32).toNatClampNeg + (6 : Int32).toNatClampNeg ≤ 6 := by rw [dk_clN, dk_clN]; omega
    have I_17 := dg_I.uf0 I_10 e_17 (pX_2 pt hk_pt) (by decide +kernel)
    have M_17 := dg_sm.uf M_10 e_17 (pX_2 pt hk_pt) (dk_dq rfl)
    have hF_1 : F_p_copy o S pt po = F_p_copy_J1 S_17 pt po := (F_p_copy_p2 (zI_eq f_x_1) e_2 (zI_eq f_x_3) e_4 e_10 e_17)
    refine lv_aload_n hx hb dX5_copy_46 rfl (lv_at hl 1 rfl) ?_
    refine dg_get (C := RX5) (T := TX5) (N := 8) hx hb hts (fun w h => bw_mem (wU_X5 w h)) hown K hP (pX_0 po hk_po) rfl 4 (dk_dq rfl) (hts _ (bw_mem wB_511)) (fun _ h9 => h9) (v := .ref (o + (po + 3))) (show S_17.1 po 4 = .ref (o + (po + 3)) from dg_I.rel (d := 3) I_17 (pX_0 po hk_po) (by decide +kernel)) dX5_copy_47 ?_
    refine lv_iconst (v := 0) hx hb dX5_copy_50 (by decide +kernel) ?_
    refine lv_aload_n hx hb dX5_copy_51 rfl (lv_at hl 0 rfl) ?_
    refine dg_get (C := RX5) (T := TX5) (N := 8) hx hb hts (fun w h => bw_mem (wU_X5 w h)) hown K hP (pX_0 pt hk_pt) rfl 4 (dk_dq rfl) (hts _ (bw_mem wB_511)) (fun _ h9 => h9) (v := .ref (o + (pt + 3))) (show S_17.1 pt 4 = .ref (o + (pt + 3)) from dg_I.rel (d := 3) I_17 (pX_0 pt hk_pt) (by decide +kernel)) dX5_copy_52 ?_
    refine lv_iconst (v := 0) hx hb dX5_copy_55 (by decide +kernel) ?_
    refine lv_bipush (v := 16) hx hb dX5_copy_56 (by decide +kernel) ?_
    have hz_19 : (16 : Int32).toInt = 16 := by decide +kernel
    have hz_20 : (0 : Int32).toInt = 0 := by decide +kernel
    have hz_21 : (0 : Int32).toInt = 0 := by decide +kernel
    have hc_22 : (0 : Int32).toInt + (16 : Int32).toInt ≤ ((16 : Nat) : Int) := by omega
    have hc_23 : (0 : Int32).toInt + (16 : Int32).toInt ≤ ((16 : Nat) : Int) := by omega
    refine dg_copyi hx hb (by rw [hml]; exact hl.1.symm) hown (hts _ (bw_mem wB_515)) (hts _ (bw_mem wB_516)) (hts _ (bw_mem wB_517)) (hts _ (bw_mem wB_518)) K hP hS hA1 (pX_3 po hk_po) (pX_3 pt hk_pt) (by omega) (by omega) (by omega) hc_22 hc_23 (Nat.le_of_ble_eq_true rfl) (Nat.le_of_ble_eq_true rfl) dX5_copy_58 (fun S_24 e_24 H locs hP hS => ?_)
    have hc_25 : (0 : Int32).toNatClampNeg + (16 : Int32).toNatClampNeg ≤ 16 := by rw [dk_clN, dk_clN]; omega
    have I_24 := dg_I.ufr (lo := 0) (hi := 5) I_17 e_24 (pX_3 pt hk_pt) (by decide +kernel) (dk_all_cpy (n0 := 16) (dk_all_w (dg_I.row (lo := 0) (hi := 5) I_17 (pX_3 po hk_po) (by decide +kernel)) (dk_dq rfl) (dk_dq rfl)) (dg_I.row I_17 (pX_3 pt hk_pt) (by decide +kernel)) _ _ _ hc_25)
    have M_24 := dg_sm.uf M_17 e_24 (pX_3 pt hk_pt) (dk_dq rfl)
    refine lv_aload_n hx hb dX5_copy_61 rfl (lv_at hl 1 rfl) ?_
    refine dg_get (C := RX5) (T := TX5) (N := 8) hx hb hts (fun w h => bw_mem (wU_X5 w h)) hown K hP (pX_0 po hk_po) rfl 5 (dk_dq rfl) (hts _ (bw_mem wB_512)) (fun _ h9 => h9) (v := .ref (o + (po + 4))) (show S_24.1 po 5 = .ref (o + (po + 4)) from dg_I.rel (d := 4) I_24 (pX_0 po hk_po) (by decide +kernel)) dX5_copy_62 ?_
    refine lv_iconst (v := 0) hx hb dX5_copy_65 (by decide +kernel) ?_
    refine lv_aload_n hx hb dX5_copy_66 rfl (lv_at hl 0 rfl) ?_
    refine dg_get (C := RX5) (T := TX5) (N := 8) hx hb hts (fun w h => bw_mem (wU_X5 w h)) hown K hP (pX_0 pt hk_pt) rfl 5 (dk_dq rfl) (hts _ (bw_mem wB_512)) (fun _ h9 => h9) (v := .ref (o + (pt + 4))) (show S_24.1 pt 5 = .ref (o + (pt + 4)) from dg_I.rel (d := 4) I_24 (pX_0 pt hk_pt) (by decide +kernel)) dX5_copy_67 ?_
    refine lv_iconst (v := 0) hx hb dX5_copy_70 (by decide +kernel) ?_
    refine lv_bipush (v := 16) hx hb dX5_copy_71 (by decide +kernel) ?_
    have hz_26 : (16 : Int32).toInt = 16 := by decide +kernel
    have hz_27 : (0 : Int32).toInt = 0 := by decide +kernel
    have hz_28 : (0 : Int32).toInt = 0 := by decide +kernel
    have hc_29 : (0 : Int32).toInt + (16 : Int32).toInt ≤ ((16 : Nat) : Int) := by omega
    have hc_30 : (0 : Int32).toInt + (16 : Int32).toInt ≤ ((16 : Nat) : Int) := by omega
    as_aux_lemma =>
      refine dg_copyi hx hb (by rw [hml]; exact hl.1.symm) hown (hts _ (bw_mem wB_515)) (hts _ (bw_mem wB_516)) (hts _ (bw_mem wB_517)) (hts _ (bw_mem wB_518)) K hP hS hA1 (pX_4 po hk_po) (pX_4 pt hk_pt) (by omega) (by omega) (by omega) hc_29 hc_30 (Nat.le_of_ble_eq_true rfl) (Nat.le_of_ble_eq_true rfl) dX5_copy_73 (fun S_31 e_31 H locs hP hS => ?_)
      have hc_32 : (0 : Int32).toNatClampNeg + (16 : Int32).toNatClampNeg ≤ 16 := by rw [dk_clN, dk_clN]; omega
      have I_31 := dg_I.ufr (lo := 0) (hi := 63) I_24 e_31 (pX_4 pt hk_pt) (by decide +kernel) (dk_all_cpy (n0 := 16) (dk_all_w (dg_I.row (lo := 0) (hi := 63) I_24 (pX_4 po hk_po) (by decide +kernel)) (dk_dq rfl) (dk_dq rfl)) (dg_I.row I_24 (pX_4 pt hk_pt) (by decide +kernel)) _ _ _ hc_32)
      have M_31 := dg_sm.uf M_24 e_31 (pX_4 pt hk_pt) (dk_dq rfl)
      refine lv_aload_n hx hb dX5_copy_76 rfl (lv_at hl 1 rfl) ?_
      refine dg_get (C := RX5) (T := TX5) (N := 8) hx hb hts (fun w h => bw_mem (wU_X5 w h)) hown K hP (pX_0 po hk_po) rfl 6 (dk_dq rfl) (hts _ (bw_mem wB_520)) (fun _ h9 => h9) (v := .ref (o + (po + 5))) (show S_31.1 po 6 = .ref (o + (po + 5)) from dg_I.rel (d := 5) I_31 (pX_0 po hk_po) (by decide +kernel)) dX5_copy_77 ?_
      refine lv_iconst (v := 0) hx hb dX5_copy_80 (by decide +kernel) ?_
      refine lv_aload_n hx hb dX5_copy_81 rfl (lv_at hl 0 rfl) ?_
      refine dg_get (C := RX5) (T := TX5) (N := 8) hx hb hts (fun w h => bw_mem (wU_X5 w h)) hown K hP (pX_0 pt hk_pt) rfl 6 (dk_dq rfl) (hts _ (bw_mem wB_520)) (fun _ h9 => h9) (v := .ref (o + (pt + 5))) (show S_31.1 pt 6 = .ref (o + (pt + 5)) from dg_I.rel (d := 5) I_31 (pX_0 pt hk_pt) (by decide +kernel)) dX5_copy_82 ?_
      refine lv_iconst (v := 0) hx hb dX5_copy_85 (by decide +kernel) ?_
      refine lv_iconst (v := 5) hx hb dX5_copy_86 (by decide +kernel) ?_
      have hz_33 : (5 : Int32).toInt = 5 := by decide +kernel
      have hz_34 : (0 : Int32).toInt = 0 := by decide +kernel
      have hz_35 : (0 : Int32).toInt = 0 := by decide +kernel
      have hc_36 : (0 : Int32).toInt + (5 : Int32).toInt ≤ ((5 : Nat) : Int) := by omega
      have hc_37 : (0 : Int32).toInt + (5 : Int32).toInt ≤ ((5 : Nat) : Int) := by omega
      refine dg_copyi hx hb (by rw [hml]; exact hl.1.symm) hown (hts _ (bw_mem wB_515)) (hts _ (bw_mem wB_516)) (hts _ (bw_mem wB_517)) (hts _ (bw_mem wB_518)) K hP hS hA1 (pX_5 po hk_po) (pX_5 pt hk_pt) (by omega) (by omega) (by omega) hc_36 hc_37 (Nat.le_of_ble_eq_true rfl) (Nat.le_of_ble_eq_true rfl) dX5_copy_87 (fun S_38 e_38 H locs hP hS => ?_)
      have hc_39 : (0 : Int32).toNatClampNeg + (5 : Int32).toNatClampNeg ≤ 5 := by rw [dk_clN, dk_clN]; omega
      have I_38 := dg_I.uf0 I_31 e_38 (pX_5 pt hk_pt) (by decide +kernel)
      have M_38 := dg_sm.uf M_31 e_38 (pX_5 pt hk_pt) (dk_dq rfl)
      refine lv_aload_n hx hb dX5_copy_90 rfl (lv_at hl 1 rfl) ?_
      refine dg_get (C := RX5) (T := TX5) (N := 8) hx hb hts (fun w h => bw_mem (wU_X5 w h)) hown K hP (pX_0 po hk_po) rfl 7 (dk_dq rfl) (hts _ (bw_mem wB_502)) (fun _ h9 => h9) (v := .ref (o + (po + 6))) (show S_38.1 po 7 = .ref (o + (po + 6)) from dg_I.rel (d := 6) I_38 (pX_0 po hk_po) (by decide +kernel)) dX5_copy_91 ?_
      refine lv_iconst (v := 0) hx hb dX5_copy_94 (by decide +kernel) ?_
      refine lv_aload_n hx hb dX5_copy_95 rfl (lv_at hl 0 rfl) ?_
      refine dg_get (C := RX5) (T := TX5) (N := 8) hx hb hts (fun w h => bw_mem (wU_X5 w h)) hown K hP (pX_0 pt hk_pt) rfl 7 (dk_dq rfl) (hts _ (bw_mem wB_502)) (fun _ h9 => h9) (v := .ref (o + (pt + 6))) (show S_38.1 pt 7 = .ref (o + (pt + 6)) from dg_I.rel (d := 6) I_38 (pX_0 pt hk_pt) (by decide +kernel)) dX5_copy_96 ?_
      refine lv_iconst (v := 0) hx hb dX5_copy_99 (by decide +kernel) ?_
      refine lv_bipush (v := 10) hx hb dX5_copy_100 (by decide +kernel) ?_
      have hz_40 : (10 : Int32).toInt = 10 := by decide +kernel
      have hz_41 : (0 : Int32).toInt = 0 := by decide +kernel
      have hz_42 : (0 : Int32).toInt = 0 := by decide +kernel
      have hc_43 : (0 : Int32).toInt + (10 : Int32).toInt ≤ ((10 : Nat) : Int) := by omega
      have hc_44 : (0 : Int32).toInt + (10 : Int32).toInt ≤ ((10 : Nat) : Int) := by omega
      refine dg_copyi hx hb (by rw [hml]; exact hl.1.symm) hown (hts _ (bw_mem wB_515)) (hts _ (bw_mem wB_516)) (hts _ (bw_mem wB_517)) (hts _ (bw_mem wB_518)) K hP hS hA1 (pX_6 po hk_po) (pX_6 pt hk_pt) (by omega) (by omega) (by omega) hc_43 hc_44 (Nat.le_of_ble_eq_true rfl) (Nat.le_of_ble_eq_true rfl) dX5_copy_102 (fun S_45 e_45 H locs hP hS => ?_)
      have hc_46 : (0 : Int32).toNatClampNeg + (10 : Int32).toNatClampNeg ≤ 10 := by rw [dk_clN, dk_clN]; omega
      have I_45 := dg_I.uf0 I_38 e_45 (pX_6 pt hk_pt) (by decide +kernel)
      have M_45 := dg_sm.uf M_38 e_45 (pX_6 pt hk_pt) (dk_dq rfl)
      have hF_2 : F_p_copy o S pt po = F_p_copy_J2 S_45 := (Eq.trans hF_1 (F_p_copy_p1 e_24 e_31 e_38 e_45))
      refine W.widen (k := 0) (n := 0) (Nat.le_of_ble_eq_true rfl) (Nat.le_of_ble_eq_true rfl) ?_
      exact dg_vret hx hb hr hlocks hP hS ⟨I_45, M_45, ((dg_FG.tr (dg_FG.tr (dg_FG.tr (dg_FG.tr (dg_FG.uf e_17 (pX_2 pt hk_pt) (dk_dq rfl)) (dg_FG.uf e_24 (pX_3 pt hk_pt) (dk_dq rfl))) (dg_FG.uf e_31 (pX_4 pt hk_pt) (dk_dq rfl))) (dg_FG.uf e_38 (pX_5 pt hk_pt) (dk_dq rfl))) (dg_FG.uf e_45 (pX_6 pt hk_pt) (dk_dq rfl))) pt hk_pt fi_10), (dg_FG.tr (dg_FG.tr (dg_FG.tr (dg_FG.tr (dg_FG.tr (dg_FG.tr (dg_FG.tr (dg_FG.uF e_2) (dg_FG.uF e_4)) gs_10) (dg_FG.uf e_17 (pX_2 pt hk_pt) (dk_dq rfl))) (dg_FG.uf e_24 (pX_3 pt hk_pt) (dk_dq rfl))) (dg_FG.uf e_31 (pX_4 pt hk_pt) (dk_dq rfl))) (dg_FG.uf e_38 (pX_5 pt hk_pt) (dk_dq rfl))) (dg_FG.uf e_45 (pX_6 pt hk_pt) (dk_dq rfl))), (Eq.symm (Eq.trans hF_2 (F_p_copy_p0))), trivial⟩ dX5_copy_105
noncomputable def F_p_begin_J3 (S_149 : dg_S) (pt : Nat) : dg_S := let r_151 : Nat → Int32 := dk_fl (S_149.2.1 (pt + 6)) (0 : Int32) 10; let S_151 : dg_S := dg_uf S_149 (pt + 6) r_151; (S_151)
noncomputable def F_p_begin_J2 (S_130 : dg_S) (pt : Nat) (gr : Nat) : dg_S := let r_133 : Nat → Int32 := dk_fl (S_130.2.1 (pt + 2)) (0 : Int32) 6; let S_133 : dg_S := dg_uf S_130 (pt + 2) r_133; let S_139 : dg_S := dg_uf S_133 (pt + 3) (va_cpy (S_133.2.1 (gr + 3)) (S_133.2.1 (pt + 3)) (0 : Int32).toNatClampNeg (0 : Int32).toNatClampNeg (16 : Int32).toNatClampNeg); let S_146 : dg_S := dg_uf S_139 (pt + 4) (va_cpy (S_139.2.1 (gr + 4)) (S_139.2.1 (pt + 4)) (0 : Int32).toNatClampNeg (0 : Int32).toNatClampNeg (16 : Int32).toNatClampNeg); let r_149 : Nat → Int32 := dk_fl (S_146.2.1 (pt + 5)) (0 : Int32) 5; let S_149 : dg_S := dg_uf S_146 (pt + 5) r_149; (F_p_begin_J3 S_149 pt)
noncomputable def F_p_begin_J1 (o : Nat) (S_101 : dg_S) (gr : Nat) (pt : Nat) (sx : Int32) : dg_S := let x_103 : Int32 := F_g_hasSeam o S_101 gr; (if x_103 = (0 : Int32) then (F_p_begin_J2 S_101 pt gr) else let S_154 : dg_S := dg_uf S_101 (pt + 1) (upd (S_101.2.1 (pt + 1)) (sx : Int32).toNatClampNeg (255 : Int32)); (F_p_begin_J2 S_154 pt gr))
noncomputable def F_p_begin_B4 (S : dg_S) (gr : Nat) (o : Nat) (pt : Nat) (sx : Int32) (cx : Int32) : (Int32 × dg_S) → (Int32 × dg_S) ⊕ (dg_S) := fun w9 => match w9 with | (x_215, S_216) => let x_218 : Int32 := zI S gr 1; (if x_218 ≤ x_215 then (Sum.inr ((F_p_begin_J1 o S_216 gr pt sx))) else let x_221 : Int32 := (8 : Int32) * x_215; let x_222 : Int32 := x_221 + (8 : Int32); let S_225 : dg_S := dg_uf S_216 (pt + 1) (va_cpy (S_216.2.1 (gr + 1)) (S_216.2.1 (pt + 1)) (x_222 : Int32).toNatClampNeg (x_222 : Int32).toNatClampNeg (cx : Int32).toNatClampNeg); let x_227 : Int32 := x_215 + 1; (Sum.inl (x_227, S_225)))
noncomputable def F_p_begin (o : Nat) (S : dg_S) (pt : Nat) (gr : Nat) : dg_S := let cx : Int32 := zI S gr 0; let sx : Int32 := zI S gr 2; let S_2 : dg_S := dg_uF S pt 0 (.int (0 : Int32)); let S_4 : dg_S := dg_uF S_2 pt 1 (.int (0 : Int32)); let r_6 : Nat → Int32 := dk_fl (S_4.2.1 (pt + 1)) (100 : Int32) 72; let S_6 : dg_S := dg_uf S_4 (pt + 1) r_6; (lp (F_p_begin_B4 S gr o pt sx cx) S ((8 - ((0 : Int32)).toInt).toNat + 1) ((0 : Int32), S_6))
theorem F_p_begin_p0 {S_149 : dg_S} {pt : Nat} {S_151 : dg_S} {r_151 : Nat → Int32} (h0 : r_151 = dk_fl (S_149.2.1 (pt + 6)) (0 : Int32) 10) (h1 : S_151 = dg_uf S_149 (pt + 6) r_151) : F_p_begin_J3 S_149 pt = S_151 := by
  replace h0 := Eq.symm h0
  subst h0
  replace h1 := Eq.symm h1
  subst h1
  exact rfl
theorem F_p_begin_p1 {S_130 : dg_S} {pt : Nat} {gr : Nat} {S_149 : dg_S} {r_133 : Nat → Int32} {S_133 : dg_S} {S_139 : dg_S} {S_146 : dg_S} {r_149 : Nat → Int32} (h0 : r_133 = dk_fl (S_130.2.1 (pt + 2)) (0 : Int32) 6) (h1 : S_133 = dg_uf S_130 (pt + 2) r_133) (h2 : S_139 = dg_uf S_133 (pt + 3) (va_cpy (S_133.2.1 (gr + 3)) (S_133.2.1 (pt + 3)) (0 : Int32).toNatClampNeg (0 : Int32).toNatClampNeg (16 : Int32).toNatClampNeg)) (h3 : S_146 = dg_uf S_139 (pt + 4) (va_cpy (S_139.2.1 (gr + 4)) (S_139.2.1 (pt + 4)) (0 : Int32).toNatClampNeg (0 : Int32).toNatClampNeg (16 : Int32).toNatClampNeg)) (h4 : r_149 = dk_fl (S_146.2.1 (pt + 5)) (0 : Int32) 5) (h5 : S_149 = dg_uf S_146 (pt + 5) r_149) : F_p_begin_J2 S_130 pt gr = F_p_begin_J3 S_149 pt := by
  replace h0 := Eq.symm h0
  subst h0
  replace h1 := Eq.symm h1
  subst h1
  replace h2 := Eq.symm h2
  subst h2
  replace h3 := Eq.symm h3
  subst h3
  replace h4 := Eq.symm h4
  subst h4
  replace h5 := Eq.symm h5
  subst h5
  exact rfl
theorem F_p_begin_p2 {o : Nat} {S_101 : dg_S} {gr : Nat} {pt : Nat} {sx : Int32} {x_103 : Int32} (h0 : x_103 = F_g_hasSeam o S_101 gr) (h1 : x_103 = (0 : Int32)) : F_p_begin_J1 o S_101 gr pt sx = F_p_begin_J2 S_101 pt gr := by
  replace h0 := Eq.symm h0
  subst h0
  exact (Eq.trans (if_pos h1) rfl)
theorem F_p_begin_p3 {o : Nat} {S_101 : dg_S} {gr : Nat} {pt : Nat} {sx : Int32} {S_154 : dg_S} {x_103 : Int32} (h0 : x_103 = F_g_hasSeam o S_101 gr) (h1 : ¬ (x_103 = (0 : Int32))) (h2 : S_154 = dg_uf S_101 (pt + 1) (upd (S_101.2.1 (pt + 1)) (sx : Int32).toNatClampNeg (255 : Int32))) : F_p_begin_J1 o S_101 gr pt sx = F_p_begin_J2 S_154 pt gr := by
  replace h0 := Eq.symm h0
  subst h0
  replace h2 := Eq.symm h2
  subst h2
  exact (Eq.trans (if_neg h1) rfl)
theorem F_p_begin_p4 {S : dg_S} {gr : Nat} {o : Nat} {pt : Nat} {sx : Int32} {cx : Int32} {x_215 : Int32} {S_216 : dg_S} {x_218 : Int32} (h0 : x_218 = zI S gr 1) (h1 : x_218 ≤ x_215) : (F_p_begin_B4 S gr o pt sx cx) (x_215, S_216) = Sum.inr (F_p_begin_J1 o S_216 gr pt sx) := by
  replace h0 := Eq.symm h0
  subst h0
  exact (Eq.trans (if_pos h1) rfl)
theorem F_p_begin_p5 {S : dg_S} {gr : Nat} {o : Nat} {pt : Nat} {sx : Int32} {cx : Int32} {x_215 : Int32} {S_216 : dg_S} {x_227 : Int32} {S_225 : dg_S} {x_218 : Int32} {x_221 : Int32} {x_222 : Int32} (h0 : x_218 = zI S gr 1) (h1 : ¬ (x_218 ≤ x_215)) (h2 : x_221 = (8 : Int32) * x_215) (h3 : x_222 = x_221 + (8 : Int32)) (h4 : S_225 = dg_uf S_216 (pt + 1) (va_cpy (S_216.2.1 (gr + 1)) (S_216.2.1 (pt + 1)) (x_222 : Int32).toNatClampNeg (x_222 : Int32).toNatClampNeg (cx : Int32).toNatClampNeg)) (h5 : x_227 = x_215 + 1) : (F_p_begin_B4 S gr o pt sx cx) (x_215, S_216) = Sum.inl (x_227, S_225) := by
  replace h0 := Eq.symm h0
  subst h0
  replace h2 := Eq.symm h2
  subst h2
  replace h3 := Eq.symm h3
  subst h3
  replace h4 := Eq.symm h4
  subst h4
  replace h5 := Eq.symm h5
  subst h5
  exact (Eq.trans (if_neg h1) rfl)
theorem F_p_begin_p6 {o : Nat} {S : dg_S} {pt : Nat} {gr : Nat} {sx : Int32} {cx : Int32} {S_6 : dg_S} {S_2 : dg_S} {S_4 : dg_S} {r_6 : Nat → Int32} (h0 : cx = zI S gr 0) (h1 : sx = zI S gr 2) (h2 : S_2 = dg_uF S pt 0 (.int (0 : Int32))) (h3 : S_4 = dg_uF S_2 pt 1 (.int (0 : Int32))) (h4 : r_6 = dk_fl (S_4.2.1 (pt + 1)) (100 : Int32) 72) (h5 : S_6 = dg_uf S_4 (pt + 1) r_6) : F_p_begin o S pt gr = lp (F_p_begin_B4 S gr o pt sx cx) S ((8 - ((0 : Int32)).toInt).toNat + 1) ((0 : Int32), S_6) := by
  replace h0 := Eq.symm h0
  subst h0
  replace h1 := Eq.symm h1
  subst h1
  replace h2 := Eq.symm h2
  subst h2
  replace h3 := Eq.symm h3
  subst h3
  replace h4 := Eq.symm h4
  subst h4
  replace h5 := Eq.symm h5
  subst h5
  exact rfl
set_option maxHeartbeats 8000000 in
set_option maxRecDepth 100000 in
theorem c_p_begin (l : Launch) (g : Nat → ClassId) (D : va_G) (o : Nat) (S : dg_S) (pt : Nat) (hk_pt : pX pt) (gr : Nat) (hk_gr : rX gr) (cx : Int32) (f_cx : S.1 gr 0 = .int cx) (b_cx : 0 ≤ (cx).toInt ∧ (cx).toInt ≤ 7) (sx : Int32) (f_sx : S.1 gr 2 = .int sx) (b_sx : (-1) ≤ (sx).toInt ∧ (sx).toInt ≤ 63) (x_shaft : 0 < (cx).toInt → 8 ≤ (sx).toInt) (I : CX o S) (sz : Nat) : Met l yX5_begin (bw yX5_begin cX5_begin 4 none) ({ frames := 2, cells := 0, slots := 0, locals := 55 } : Room) (dk_Pc g D (dg_w g shX o rfX S) sz [.ref (o + pt), .ref (o + gr)]) (va_Qv (fun S' => CX o S' ∧ dg_sm shX [(3, 0), (3, 1)] [4, 5, 6, 7, 8, 9] S S' ∧ dg_fil S' pt ∧ dg_FG S S' ∧ (S' = F_p_begin o S pt gr) ∧ True) (dg_B g D shX o rfX) (dg_A o shX.length sz)) 0 0 (dg_A o shX.length sz) := by
  refine dg_met (cc := cX5_begin) (maxL := 4) (ret := none) (dk_dq rfl) rfl (Nat.le_of_ble_eq_true rfl) ?_
  intro p e s m args below meth c A hAe harg hx hb hr hml hts hown hlocks hin hP K hS hA1 hA ST hsz ls hl
  rw [← hAe]
  have F : CallFix p m c cX5_begin 4 s args (bw yX5_begin cX5_begin 4 none) RX5 := ⟨hx, hb, hml, hown, hts⟩
  have hl : lv_has ls 4 [(0, .ref (o + pt)), (1, .ref (o + gr))] := hl
  have M_0 : dg_sm shX [(3, 0), (3, 1)] [4, 5, 6, 7, 8, 9] S S := dg_sm.rf
  refine lv_aload_n hx hb dX5_begin_0 rfl (lv_at hl 0 rfl) ?_
  refine lv_iconst (v := 0) hx hb dX5_begin_1 (by decide +kernel) ?_
  have hz_1 : (0 : Int32).toInt = 0 := by decide +kernel
  refine dg_put (ci := 5) (v := .int 0) (ty := tyX5 0) (C := RX5) (T := TX5) (N := 8) hx hb hts (fun w h => bw_mem (wU_X5 w h)) tyX5 tyX5_ok nmX5 hown K hP hS hA1 (pX_0 pt hk_pt) rfl 0 (dk_dq rfl) (hts _ (bw_mem wB_513)) (fun _ h9 => h9) rfl (by decide +kernel) rfl rfl dX5_begin_2 (fun S_2 e_2 H locs hP hS => ?_)
  have I_2 := dg_I.uFi (lo := 0) (hi := 65535) I e_2 (pX_0 pt hk_pt) (by decide +kernel) (show 0 ≤ ((0 : Int32)).toInt ∧ ((0 : Int32)).toInt ≤ 65535 from (by decide +kernel))
  have M_2 := dg_sm.uF M_0 e_2 (pX_0 pt hk_pt) (dk_dq rfl)
  refine lv_aload_n hx hb dX5_begin_5 rfl (lv_at hl 0 rfl) ?_
  refine lv_iconst (v := 0) hx hb dX5_begin_6 (by decide +kernel) ?_
  have hz_3 : (0 : Int32).toInt = 0 := by decide +kernel
  refine dg_put (ci := 5) (v := .int 0) (ty := tyX5 1) (C := RX5) (T := TX5) (N := 8) hx hb hts (fun w h => bw_mem (wU_X5 w h)) tyX5 tyX5_ok nmX5 hown K hP hS hA1 (pX_0 pt hk_pt) rfl 1 (dk_dq rfl) (hts _ (bw_mem wB_514)) (fun _ h9 => h9) rfl (by decide +kernel) rfl rfl dX5_begin_7 (fun S_4 e_4 H locs hP hS => ?_)
  have I_4 := dg_I.uFi (lo := (-2147483648)) (hi := 2147483647) I_2 e_4 (pX_0 pt hk_pt) (by decide +kernel) (show (-2147483648) ≤ ((0 : Int32)).toInt ∧ ((0 : Int32)).toInt ≤ 2147483647 from (by decide +kernel))
  have M_4 := dg_sm.uF M_2 e_4 (pX_0 pt hk_pt) (dk_dq rfl)
  refine lv_aload_n hx hb dX5_begin_10 rfl (lv_at hl 0 rfl) ?_
  refine dg_get (C := RX5) (T := TX5) (N := 8) hx hb hts (fun w h => bw_mem (wU_X5 w h)) hown K hP (pX_0 pt hk_pt) rfl 2 (dk_dq rfl) (hts _ (bw_mem wB_488)) (fun _ h9 => h9) (v := .ref (o + (pt + 1))) (show S_4.1 pt 2 = .ref (o + (pt + 1)) from dg_I.rel (d := 1) I_4 (pX_0 pt hk_pt) (by decide +kernel)) dX5_begin_11 ?_
  refine lv_bipush (v := 100) hx hb dX5_begin_14 (by decide +kernel) ?_
  have hz_5 : (100 : Int32).toInt = 100 := by decide +kernel
  refine dg_callv hS hA1 hA (va_runS (As := [.ref (o + (pt + 1)), .int 100]) (rest := []) F (c_fillF l g D S_4 (pX_1 pt hk_pt) (dk_dq rfl) 100 H.size) (va_cwS 2 hts (bw_S wB_521 wB_262 wB_263 wB_264) rfl rfl rfl (by decide +kernel) ⟨Nat.le_of_ble_eq_true rfl, Nat.le_of_ble_eq_true rfl⟩) (dg_preS K ST hP hS hA1 hA) rfl rfl hl.1 rfl (lv_room (Nat.le_of_ble_eq_true rfl)) dX5_begin_16 ⟨Nat.le_of_ble_eq_true rfl, Nat.le_of_ble_eq_true rfl⟩) (fun S_6 hw_6 H locs hP hS => ?_)
  obtain ⟨r_6, e_6, hr_6, hf_6⟩ := hw_6
  have I_6 := dg_I.uffc (lo := 0) (hi := 255) I_4 e_6 (pX_1 pt hk_pt) (by decide +kernel) hr_6 (by decide +kernel)
  have gs_6 := dg_FG.fi e_6 hr_6 (dk_dq rfl) (by decide +kernel)
  have fi_6 : dg_fil S_6 pt := dg_fil.fi e_6 hr_6 (dk_dq rfl) (by decide +kernel)
  have M_6 := dg_sm.uf M_4 e_6 (pX_1 pt hk_pt) (dk_dq rfl)
  refine lv_iconst (v := 0) hx hb dX5_begin_19 (by decide +kernel) ?_
  refine lv_istore_n (lv' := [(2, .int 0), (0, .ref (o + pt)), (1, .ref (o + gr))]) hx hb dX5_begin_20 rfl hl (dk_dq rfl) rfl (fun ls hl => ?_)
  have J_102 : ∀ (x_72 : Int32), (0 ≤ (x_72).toInt ∧ (x_72).toInt ≤ 2147483647) → ∀ S_101 : dg_S, CX o S_101 → dg_sm shX [(3, 0), (3, 1)] [4, 5, 6, 7, 8, 9] S S_101 → dg_FG S S_101 → S_101.1 pt 0 = .int 0 → S_101.1 pt 1 = .int 0 → dg_fil S_101 pt → (F_p_begin o S pt gr = F_p_begin_J1 o S_101 gr pt sx) → ∀ (H : Heap) (locs : List Loc), va_P D vwCl (dg_w g shX o rfX S_101) H → va_S A s.heap H locs → ∀ ls : Array Slot, lv_has ls 4 [(2, .int x_72), (0, .ref (o + pt)), (1, .ref (o + gr))] → W p l e ({ frames := 2, cells := 0, slots := 0, locals := 55 } : Room) s m args below meth c H locs 0 0 (MQ below (va_Qv (fun S' => CX o S' ∧ dg_sm shX [(3, 0), (3, 1)] [4, 5, 6, 7, 8, 9] S S' ∧ dg_fil S' pt ∧ dg_FG S S' ∧ (S' = F_p_begin o S pt gr) ∧ True) (dg_B g D shX o rfX) A) args s 0 0 A) (F0 m 60 ls []) := by
    as_aux_lemma =>
      intro x_72 b_x_72 S_101 I_101 M_101 G_101 ff_101_0_pt ff_101_1_pt fl_101_0 hF_1 H locs hP hS ls hl
      refine lv_aload_n hx hb dX5_begin_60 rfl (lv_at hl 2 rfl) ?_
      refine dg_calli hS hA1 hA (va_runV (As := []) (rest := []) F (c_g_hasSeam l g D o S_101 gr hk_gr cx ((M_101.1 gr 0 _ (rX_0 gr hk_gr) (dk_dq rfl)).trans f_cx) (by omega) I_101 H.size) (cwV 0 hts (bw_V wB_526 wB_527 wB_528 wB_9 wB_525) rfl rfl rfl (by decide +kernel) ⟨Nat.le_of_ble_eq_true rfl, Nat.le_of_ble_eq_true rfl⟩) (dg_preV (rX_0 gr hk_gr) rfl K ST hP hS hA1 hA) rfl rfl hl.1 rfl (lv_room (Nat.le_of_ble_eq_true rfl)) dX5_begin_61 ⟨Nat.le_of_ble_eq_true rfl, Nat.le_of_ble_eq_true rfl⟩) (fun x_103 S_104 hw_104 H locs hP hS => ?_)
      rw [hw_104.1] at hP
      obtain ⟨hq_104, w_104_0, w_104_1, w_104_2, -⟩ := hw_104
      have w_104_0 : 0 ≤ (x_103).toInt ∧ (x_103).toInt ≤ 1 := w_104_0
      have w_104_1 : (x_103).toInt = 1 ↔ 0 < (cx).toInt := w_104_1
      have J_131 : ∀ S_130 : dg_S, CX o S_130 → dg_sm shX [(3, 0), (3, 1)] [4, 5, 6, 7, 8, 9] S S_130 → dg_FG S S_130 → S_130.1 pt 0 = .int 0 → S_130.1 pt 1 = .int 0 → dg_fil S_130 pt → (F_p_begin o S pt gr = F_p_begin_J2 S_130 pt gr) → ∀ (H : Heap) (locs : List Loc), va_P D vwCl (dg_w g shX o rfX S_130) H → va_S A s.heap H locs → ∀ ls : Array Slot, lv_has ls 4 [(2, .int x_72), (0, .ref (o + pt)), (1, .ref (o + gr))] → W p l e ({ frames := 2, cells := 0, slots := 0, locals := 55 } : Room) s m args below meth c H locs 0 0 (MQ below (va_Qv (fun S' => CX o S' ∧ dg_sm shX [(3, 0), (3, 1)] [4, 5, 6, 7, 8, 9] S S' ∧ dg_fil S' pt ∧ dg_FG S S' ∧ (S' = F_p_begin o S pt gr) ∧ True) (dg_B g D shX o rfX) A) args s 0 0 A) (F0 m 79 ls []) := by
        as_aux_lemma =>
          intro S_130 I_130 M_130 G_130 ff_130_0_pt ff_130_1_pt fl_130_0 hF_2 H locs hP hS ls hl
          refine lv_aload_n hx hb dX5_begin_79 rfl (lv_at hl 1 rfl) ?_
          refine dg_get (C := RX5) (T := TX5) (N := 8) hx hb hts (fun w h => bw_mem (wU_X5 w h)) hown K hP (pX_0 pt hk_pt) rfl 3 (dk_dq rfl) (hts _ (bw_mem wB_519)) (fun _ h9 => h9) (v := .ref (o + (pt + 2))) (show S_130.1 pt 3 = .ref (o + (pt + 2)) from dg_I.rel (d := 2) I_130 (pX_0 pt hk_pt) (by decide +kernel)) dX5_begin_80 ?_
          refine lv_iconst (v := 0) hx hb dX5_begin_83 (by decide +kernel) ?_
          have hz_132 : (0 : Int32).toInt = 0 := by decide +kernel
          refine dg_callv hS hA1 hA (va_runS (As := [.ref (o + (pt + 2)), .int 0]) (rest := []) F (c_fillF l g D S_130 (pX_2 pt hk_pt) (dk_dq rfl) 0 H.size) (va_cwS 2 hts (bw_S wB_521 wB_262 wB_263 wB_264) rfl rfl rfl (by decide +kernel) ⟨Nat.le_of_ble_eq_true rfl, Nat.le_of_ble_eq_true rfl⟩) (dg_preS K ST hP hS hA1 hA) rfl rfl hl.1 rfl (lv_room (Nat.le_of_ble_eq_true rfl)) dX5_begin_84 ⟨Nat.le_of_ble_eq_true rfl, Nat.le_of_ble_eq_true rfl⟩) (fun S_133 hw_133 H locs hP hS => ?_)
          obtain ⟨r_133, e_133, hr_133, hf_133⟩ := hw_133
          have I_133 := dg_I.uf0 I_130 e_133 (pX_2 pt hk_pt) (by decide +kernel)
          have M_133 := dg_sm.uf M_130 e_133 (pX_2 pt hk_pt) (dk_dq rfl)
          refine lv_aload_n hx hb dX5_begin_87 rfl (lv_at hl 2 rfl) ?_
          refine dg_get (C := RX2) (T := TX2) (N := 19) hx hb hts (fun w h => bw_mem (wU_X2 w h)) hown K hP (rX_0 gr hk_gr) rfl 9 (dk_dq rfl) (hts _ (bw_mem wB_530)) (fun _ h9 => h9) (v := .ref (o + (gr + 3))) (show S_133.1 gr 9 = .ref (o + (gr + 3)) from dg_I.rel (d := 3) I_133 (rX_0 gr hk_gr) (by decide +kernel)) dX5_begin_88 ?_
          refine lv_iconst (v := 0) hx hb dX5_begin_91 (by decide +kernel) ?_
          refine lv_aload_n hx hb dX5_begin_92 rfl (lv_at hl 1 rfl) ?_
          refine dg_get (C := RX5) (T := TX5) (N := 8) hx hb hts (fun w h => bw_mem (wU_X5 w h)) hown K hP (pX_0 pt hk_pt) rfl 4 (dk_dq rfl) (hts _ (bw_mem wB_511)) (fun _ h9 => h9) (v := .ref (o + (pt + 3))) (show S_133.1 pt 4 = .ref (o + (pt + 3)) from dg_I.rel (d := 3) I_133 (pX_0 pt hk_pt) (by decide +kernel)) dX5_begin_93 ?_
          refine lv_iconst (v := 0) hx hb dX5_begin_96 (by decide +kernel) ?_
          refine lv_bipush (v := 16) hx hb dX5_begin_97 (by decide +kernel) ?_
          have hz_134 : (16 : Int32).toInt = 16 := by decide +kernel
          have hz_135 : (0 : Int32).toInt = 0 := by decide +kernel
          have hz_136 : (0 : Int32).toInt = 0 := by decide +kernel
          have hc_137 : (0 : Int32).toInt + (16 : Int32).toInt ≤ ((16 : Nat) : Int) := by omega
          have hc_138 : (0 : Int32).toInt + (16 : Int32).toInt ≤ ((16 : Nat) : Int) := by omega
          refine dg_copyi hx hb (by rw [hml]; exact hl.1.symm) hown (hts _ (bw_mem wB_515)) (hts _ (bw_mem wB_516)) (hts _ (bw_mem wB_517)) (hts _ (bw_mem wB_518)) K hP hS hA1 (rX_3 gr hk_gr) (pX_3 pt hk_pt) (by omega) (by omega) (by omega) hc_137 hc_138 (Nat.le_of_ble_eq_true rfl) (Nat.le_of_ble_eq_true rfl) dX5_begin_99 (fun S_139 e_139 H locs hP hS => ?_)
          have hc_140 : (0 : Int32).toNatClampNeg + (16 : Int32).toNatClampNeg ≤ 16 := by rw [dk_clN, dk_clN]; omega
          have I_139 := dg_I.ufr (lo := 0) (hi := 5) I_133 e_139 (pX_3 pt hk_pt) (by decide +kernel) (dk_all_cpy (n0 := 16) (dk_all_w (dg_I.row (lo := 0) (hi := 5) I_133 (rX_3 gr hk_gr) (by decide +kernel)) (dk_dq rfl) (dk_dq rfl)) (dg_I.row I_133 (pX_3 pt hk_pt) (by decide +kernel)) _ _ _ hc_140)
          have M_139 := dg_sm.uf M_133 e_139 (pX_3 pt hk_pt) (dk_dq rfl)
          refine lv_aload_n hx hb dX5_begin_102 rfl (lv_at hl 2 rfl) ?_
          refine dg_get (C := RX2) (T := TX2) (N := 19) hx hb hts (fun w h => bw_mem (wU_X2 w h)) hown K hP (rX_0 gr hk_gr) rfl 10 (dk_dq rfl) (hts _ (bw_mem wB_531)) (fun _ h9 => h9) (v := .ref (o + (gr + 4))) (show S_139.1 gr 10 = .ref (o + (gr + 4)) from dg_I.rel (d := 4) I_139 (rX_0 gr hk_gr) (by decide +kernel)) dX5_begin_103 ?_
          refine lv_iconst (v := 0) hx hb dX5_begin_106 (by decide +kernel) ?_
          refine lv_aload_n hx hb dX5_begin_107 rfl (lv_at hl 1 rfl) ?_
          refine dg_get (C := RX5) (T := TX5) (N := 8) hx hb hts (fun w h => bw_mem (wU_X5 w h)) hown K hP (pX_0 pt hk_pt) rfl 5 (dk_dq rfl) (hts _ (bw_mem wB_512)) (fun _ h9 => h9) (v := .ref (o + (pt + 4))) (show S_139.1 pt 5 = .ref (o + (pt + 4)) from dg_I.rel (d := 4) I_139 (pX_0 pt hk_pt) (by decide +kernel)) dX5_begin_108 ?_
          refine lv_iconst (v := 0) hx hb dX5_begin_111 (by decide +kernel) ?_
          refine lv_bipush (v := 16) hx hb dX5_begin_112 (by decide +kernel) ?_
          have hz_141 : (16 : Int32).toInt = 16 := by decide +kernel
          have hz_142 : (0 : Int32).toInt = 0 := by decide +kernel
          have hz_143 : (0 : Int32).toInt = 0 := by decide +kernel
          have hc_144 : (0 : Int32).toInt + (16 : Int32).toInt ≤ ((16 : Nat) : Int) := by omega
          have hc_145 : (0 : Int32).toInt + (16 : Int32).toInt ≤ ((16 : Nat) : Int) := by omega
          refine dg_copyi hx hb (by rw [hml]; exact hl.1.symm) hown (hts _ (bw_mem wB_515)) (hts _ (bw_mem wB_516)) (hts _ (bw_mem wB_517)) (hts _ (bw_mem wB_518)) K hP hS hA1 (rX_4 gr hk_gr) (pX_4 pt hk_pt) (by omega) (by omega) (by omega) hc_144 hc_145 (Nat.le_of_ble_eq_true rfl) (Nat.le_of_ble_eq_true rfl) dX5_begin_114 (fun S_146 e_146 H locs hP hS => ?_)
          have hc_147 : (0 : Int32).toNatClampNeg + (16 : Int32).toNatClampNeg ≤ 16 := by rw [dk_clN, dk_clN]; omega
          have I_146 := dg_I.ufr (lo := 0) (hi := 63) I_139 e_146 (pX_4 pt hk_pt) (by decide +kernel) (dk_all_cpy (n0 := 16) (dk_all_w (dg_I.row (lo := 0) (hi := 63) I_139 (rX_4 gr hk_gr) (by decide +kernel)) (dk_dq rfl) (dk_dq rfl)) (dg_I.row I_139 (pX_4 pt hk_pt) (by decide +kernel)) _ _ _ hc_147)
          have M_146 := dg_sm.uf M_139 e_146 (pX_4 pt hk_pt) (dk_dq rfl)
          as_aux_lemma =>
            refine lv_aload_n hx hb dX5_begin_117 rfl (lv_at hl 1 rfl) ?_
            refine dg_get (C := RX5) (T := TX5) (N := 8) hx hb hts (fun w h => bw_mem (wU_X5 w h)) hown K hP (pX_0 pt hk_pt) rfl 6 (dk_dq rfl) (hts _ (bw_mem wB_520)) (fun _ h9 => h9) (v := .ref (o + (pt + 5))) (show S_146.1 pt 6 = .ref (o + (pt + 5)) from dg_I.rel (d := 5) I_146 (pX_0 pt hk_pt) (by decide +kernel)) dX5_begin_118 ?_
            refine lv_iconst (v := 0) hx hb dX5_begin_121 (by decide +kernel) ?_
            have hz_148 : (0 : Int32).toInt = 0 := by decide +kernel
            refine dg_callv hS hA1 hA (va_runS (As := [.ref (o + (pt + 5)), .int 0]) (rest := []) F (c_fillF l g D S_146 (pX_5 pt hk_pt) (dk_dq rfl) 0 H.size) (va_cwS 2 hts (bw_S wB_521 wB_262 wB_263 wB_264) rfl rfl rfl (by decide +kernel) ⟨Nat.le_of_ble_eq_true rfl, Nat.le_of_ble_eq_true rfl⟩) (dg_preS K ST hP hS hA1 hA) rfl rfl hl.1 rfl (lv_room (Nat.le_of_ble_eq_true rfl)) dX5_begin_122 ⟨Nat.le_of_ble_eq_true rfl, Nat.le_of_ble_eq_true rfl⟩) (fun S_149 hw_149 H locs hP hS => ?_)
            obtain ⟨r_149, e_149, hr_149, hf_149⟩ := hw_149
            have I_149 := dg_I.uf0 I_146 e_149 (pX_5 pt hk_pt) (by decide +kernel)
            have M_149 := dg_sm.uf M_146 e_149 (pX_5 pt hk_pt) (dk_dq rfl)
            have hF_3 : F_p_begin o S pt gr = F_p_begin_J3 S_149 pt := (Eq.trans hF_2 (F_p_begin_p1 hf_133 e_133 e_139 e_146 hf_149 e_149))
            refine lv_aload_n hx hb dX5_begin_125 rfl (lv_at hl 1 rfl) ?_
            refine dg_get (C := RX5) (T := TX5) (N := 8) hx hb hts (fun w h => bw_mem (wU_X5 w h)) hown K hP (pX_0 pt hk_pt) rfl 7 (dk_dq rfl) (hts _ (bw_mem wB_502)) (fun _ h9 => h9) (v := .ref (o + (pt + 6))) (show S_149.1 pt 7 = .ref (o + (pt + 6)) from dg_I.rel (d := 6) I_149 (pX_0 pt hk_pt) (by decide +kernel)) dX5_begin_126 ?_
            refine lv_iconst (v := 0) hx hb dX5_begin_129 (by decide +kernel) ?_
            have hz_150 : (0 : Int32).toInt = 0 := by decide +kernel
            refine dg_callv hS hA1 hA (va_runS (As := [.ref (o + (pt + 6)), .int 0]) (rest := []) F (c_fillF l g D S_149 (pX_6 pt hk_pt) (dk_dq rfl) 0 H.size) (va_cwS 2 hts (bw_S wB_521 wB_262 wB_263 wB_264) rfl rfl rfl (by decide +kernel) ⟨Nat.le_of_ble_eq_true rfl, Nat.le_of_ble_eq_true rfl⟩) (dg_preS K ST hP hS hA1 hA) rfl rfl hl.1 rfl (lv_room (Nat.le_of_ble_eq_true rfl)) dX5_begin_130 ⟨Nat.le_of_ble_eq_true rfl, Nat.le_of_ble_eq_true rfl⟩) (fun S_151 hw_151 H locs hP hS => ?_)
            obtain ⟨r_151, e_151, hr_151, hf_151⟩ := hw_151
            have I_151 := dg_I.uf0 I_149 e_151 (pX_6 pt hk_pt) (by decide +kernel)
            have M_151 := dg_sm.uf M_149 e_151 (pX_6 pt hk_pt) (dk_dq rfl)
            refine W.widen (k := 0) (n := 0) (Nat.le_of_ble_eq_true rfl) (Nat.le_of_ble_eq_true rfl) ?_
            exact dg_vret hx hb hr hlocks hP hS ⟨I_151, M_151, ((dg_FG.tr (dg_FG.tr (dg_FG.tr (dg_FG.tr (dg_FG.uf e_133 (pX_2 pt hk_pt) (dk_dq rfl)) (dg_FG.uf e_139 (pX_3 pt hk_pt) (dk_dq rfl))) (dg_FG.uf e_146 (pX_4 pt hk_pt) (dk_dq rfl))) (dg_FG.uf e_149 (pX_5 pt hk_pt) (dk_dq rfl))) (dg_FG.uf e_151 (pX_6 pt hk_pt) (dk_dq rfl))) pt hk_pt fl_130_0), (dg_FG.tr (dg_FG.tr (dg_FG.tr (dg_FG.tr (dg_FG.tr G_130 (dg_FG.uf e_133 (pX_2 pt hk_pt) (dk_dq rfl))) (dg_FG.uf e_139 (pX_3 pt hk_pt) (dk_dq rfl))) (dg_FG.uf e_146 (pX_4 pt hk_pt) (dk_dq rfl))) (dg_FG.uf e_149 (pX_5 pt hk_pt) (dk_dq rfl))) (dg_FG.uf e_151 (pX_6 pt hk_pt) (dk_dq rfl))), (Eq.symm (Eq.trans hF_3 (F_p_begin_p0 hf_151 e_151))), trivial⟩ dX5_begin_133
      refine lv_if_eq (tgt := 79) hx hb dX5_begin_64 (dk_dq rfl) (fun c_152 => ?_) (fun c_152 => ?_)
      · have jc_152 := dk_eqc (k := 0) (by decide +kernel) c_152
        exact J_131   S_101 I_101 M_101 G_101 ff_101_0_pt ff_101_1_pt fl_101_0 (Eq.trans hF_1 (F_p_begin_p2 w_104_2 c_152)) _ _ hP hS _ (lv_sub hl [0, 1, 2] rfl)
      · have jc_152 := dk_neqc (k := 0) (by decide +kernel) c_152
        refine lv_aload_n hx hb dX5_begin_67 rfl (lv_at hl 1 rfl) ?_
        refine dg_get (C := RX5) (T := TX5) (N := 8) hx hb hts (fun w h => bw_mem (wU_X5 w h)) hown K hP (pX_0 pt hk_pt) rfl 2 (dk_dq rfl) (hts _ (bw_mem wB_488)) (fun _ h9 => h9) (v := .ref (o + (pt + 1))) (show S_101.1 pt 2 = .ref (o + (pt + 1)) from dg_I.rel (d := 1) I_101 (pX_0 pt hk_pt) (by decide +kernel)) dX5_begin_68 ?_
        refine lv_aload_n hx hb dX5_begin_71 rfl (lv_at hl 2 rfl) ?_
        refine dg_get (C := RX2) (T := TX2) (N := 19) hx hb hts (fun w h => bw_mem (wU_X2 w h)) hown K hP (rX_0 gr hk_gr) rfl 2 (dk_dq rfl) (hts _ (bw_mem wB_529)) (fun _ h9 => h9) (v := .int sx) ((M_101.1 gr 2 _ (rX_0 gr hk_gr) (dk_dq rfl)).trans f_sx) dX5_begin_72 ?_
        refine lv_sipush (v := 255) hx hb dX5_begin_75 (by decide +kernel) ?_
        have hin_153 : vp_in sx 72 := (dk_inv2 (by omega))
        have hz_155 : (255 : Int32).toInt = 255 := by decide +kernel
        refine dg_iast hx hb K hP hS hA1 (pX_1 pt hk_pt) hin_153 dX5_begin_78 (fun S_154 e_154 H locs hP hS => ?_)
        have I_154 := dg_I.ufc (lo := 0) (hi := 255) I_101 e_154 (pX_1 pt hk_pt) (by decide +kernel) hin_153 (show dg_Pcel _ _ from by unfold dg_Pcel; omega) (by omega)
        have gs_154 := dg_FG.st e_154 (by omega)
        have M_154 := dg_sm.uf M_101 e_154 (pX_1 pt hk_pt) (dk_dq rfl)
        exact J_131   S_154 I_154 M_154 (dg_FG.tr G_101 gs_154) ((dg_uf_F e_154 pt 0).trans ff_101_0_pt) ((dg_uf_F e_154 pt 1).trans ff_101_1_pt) (gs_154 pt hk_pt fl_101_0) (Eq.trans hF_1 (F_p_begin_p3 w_104_2 c_152 e_154)) _ _ hP hS _ (lv_sub hl [0, 1, 2] rfl)
  have L_217 : ∀ (n : Nat) (x_215 : Int32), (0 ≤ (x_215).toInt ∧ (x_215).toInt ≤ 7) → ((8 - (x_215).toInt).toNat < n) → ∀ S_216 : dg_S, CX o S_216 → dg_sm shX [(3, 0), (3, 1)] [4, 5, 6, 7, 8, 9] S S_216 → dg_FG S S_216 → S_216.1 pt 0 = .int 0 → S_216.1 pt 1 = .int 0 → dg_fil S_216 pt → (F_p_begin o S pt gr = lp (F_p_begin_B4 S gr o pt sx cx) S n (x_215, S_216)) → ∀ (H : Heap) (locs : List Loc), va_P D vwCl (dg_w g shX o rfX S_216) H → va_S A s.heap H locs → ∀ ls : Array Slot, lv_has ls 4 [(2, .int x_215), (0, .ref (o + pt)), (1, .ref (o + gr))] → W p l e ({ frames := 2, cells := 0, slots := 0, locals := 55 } : Room) s m args below meth c H locs 0 0 (MQ below (va_Qv (fun S' => CX o S' ∧ dg_sm shX [(3, 0), (3, 1)] [4, 5, 6, 7, 8, 9] S S' ∧ dg_fil S' pt ∧ dg_FG S S' ∧ (S' = F_p_begin o S pt gr) ∧ True) (dg_B g D shX o rfX) A) args s 0 0 A) (F0 m 21 ls []) := by
    as_aux_lemma =>
      intro n
      induction n with
      | zero =>
        intro x_215 b_x_215 hmu S_216 I_216 M_216 G_216 ff_216_0_pt ff_216_1_pt fl_216_0 hF_4 H locs hP hS ls hl
        omega
      | succ n ih =>
        as_aux_lemma =>
          intro x_215 b_x_215 hmu S_216 I_216 M_216 G_216 ff_216_0_pt ff_216_1_pt fl_216_0 hF_4 H locs hP hS ls hl
          refine lv_iload_n hx hb dX5_begin_21 rfl (lv_at hl 0 rfl) ?_
          refine lv_aload_n hx hb dX5_begin_22 rfl (lv_at hl 2 rfl) ?_
          obtain ⟨x_218, f_x_218, b_x_218⟩ := dg_I.int (i := gr) (k := 1) (lo := 0) (hi := 7) I (rX_0 gr hk_gr) (by decide +kernel)
          refine dg_get (C := RX2) (T := TX2) (N := 19) hx hb hts (fun w h => bw_mem (wU_X2 w h)) hown K hP (rX_0 gr hk_gr) rfl 1 (dk_dq rfl) (hts _ (bw_mem wB_522)) (fun _ h9 => h9) (v := .int x_218) ((M_216.1 gr 1 _ (rX_0 gr hk_gr) (dk_dq rfl)).trans f_x_218) dX5_begin_23 ?_
          refine lv_icmp_ge (tgt := 60) hx hb dX5_begin_26 (dk_dq rfl) (fun c_219 => ?_) (fun c_219 => ?_)
          · have jc_219 := dk_gec (k := (x_218).toInt) rfl c_219
            have hf_219 := dk_full x_215
            exact J_102 x_215 (by omega) S_216 I_216 M_216 G_216 ff_216_0_pt ff_216_1_pt fl_216_0 (lp_r hF_4 (F_p_begin_p4 (zI_eq f_x_218) c_219)) _ _ hP hS _ (lv_sub hl [0, 1, 2] rfl)
          · as_aux_lemma =>
              have jc_219 := dk_ngec (k := (x_218).toInt) rfl c_219
              refine lv_bipush (v := 8) hx hb dX5_begin_29 (by decide +kernel) ?_
              refine lv_iload_n hx hb dX5_begin_31 rfl (lv_at hl 0 rfl) ?_
              refine lv_imul hx hb dX5_begin_32 ?_
              refine lv_topi (fun x_221 ex_221 => ?_)
              have jx_221 : (x_221).toInt = 8 * (x_215).toInt := by rw [ex_221]; exact dk_mulT2 (by decide +kernel) rfl (by omega)
              refine lv_bipush (v := 8) hx hb dX5_begin_33 (by decide +kernel) ?_
              refine lv_iadd hx hb dX5_begin_35 ?_
              refine lv_topi (fun x_222 ex_222 => ?_)
              have jx_222 : (x_222).toInt = (x_221).toInt + 8 := by rw [ex_222]; exact dk_addT2 rfl (by decide +kernel) (by omega)
              refine lv_istore_n (lv' := [(3, .int x_222), (2, .int x_215), (0, .ref (o + pt)), (1, .ref (o + gr))]) hx hb dX5_begin_36 rfl hl (dk_dq rfl) rfl (fun ls hl => ?_)
              refine lv_aload_n hx hb dX5_begin_37 rfl (lv_at hl 3 rfl) ?_
              refine dg_get (C := RX2) (T := TX2) (N := 19) hx hb hts (fun w h => bw_mem (wU_X2 w h)) hown K hP (rX_0 gr hk_gr) rfl 5 (dk_dq rfl) (hts _ (bw_mem wB_523)) (fun _ h9 => h9) (v := .ref (o + (gr + 1))) (show S_216.1 gr 5 = .ref (o + (gr + 1)) from dg_I.rel (d := 1) I_216 (rX_0 gr hk_gr) (by decide +kernel)) dX5_begin_38 ?_
              refine lv_iload_n hx hb dX5_begin_41 rfl (lv_at hl 0 rfl) ?_
              refine lv_aload_n hx hb dX5_begin_42 rfl (lv_at hl 2 rfl) ?_
              refine dg_get (C := RX5) (T := TX5) (N := 8) hx hb hts (fun w h => bw_mem (wU_X5 w h)) hown K hP (pX_0 pt hk_pt) rfl 2 (dk_dq rfl) (hts _ (bw_mem wB_488)) (fun _ h9 => h9) (v := .ref (o + (pt + 1))) (show S_216.1 pt 2 = .ref (o + (pt + 1)) from dg_I.rel (d := 1) I_216 (pX_0 pt hk_pt) (by decide +kernel)) dX5_begin_43 ?_
              refine lv_iload_n hx hb dX5_begin_46 rfl (lv_at hl 0 rfl) ?_
              refine lv_aload_n hx hb dX5_begin_47 rfl (lv_at hl 3 rfl) ?_
              refine dg_get (C := RX2) (T := TX2) (N := 19) hx hb hts (fun w h => bw_mem (wU_X2 w h)) hown K hP (rX_0 gr hk_gr) rfl 0 (dk_dq rfl) (hts _ (bw_mem wB_524)) (fun _ h9 => h9) (v := .int cx) ((M_216.1 gr 0 _ (rX_0 gr hk_gr) (dk_dq rfl)).trans f_cx) dX5_begin_48 ?_
              have hc_223 : (x_222 : Int32).toInt + (cx : Int32).toInt ≤ ((72 : Nat) : Int) := by omega
              have hc_224 : (x_222 : Int32).toInt + (cx : Int32).toInt ≤ ((72 : Nat) : Int) := by omega
              refine dg_copyi hx hb (by rw [hml]; exact hl.1.symm) hown (hts _ (bw_mem wB_515)) (hts _ (bw_mem wB_516)) (hts _ (bw_mem wB_517)) (hts _ (bw_mem wB_518)) K hP hS hA1 (rX_1 gr hk_gr) (pX_1 pt hk_pt) (by omega) (by omega) (by omega) hc_223 hc_224 (Nat.le_of_ble_eq_true rfl) (Nat.le_of_ble_eq_true rfl) dX5_begin_51 (fun S_225 e_225 H locs hP hS => ?_)
              have hc_226 : (x_222 : Int32).toNatClampNeg + (cx : Int32).toNatClampNeg ≤ 72 := by rw [dk_clN, dk_clN]; omega
              have I_225 := dg_I.ufcg (n0 := 72) (lo := 0) (hi := 255) I_216 e_225 (pX_1 pt hk_pt) (by decide +kernel) (dg_I.row (lo := 0) (hi := 9) I_216 (rX_1 gr hk_gr) (by decide +kernel)) (dk_dq rfl) (dk_dq rfl) rfl (by omega) (by omega) (by omega)
              have gs_225 := dg_FG.cpg e_225 (by rw [dk_clN]; omega)
              have M_225 := dg_sm.uf M_216 e_225 (pX_1 pt hk_pt) (dk_dq rfl)
              obtain ⟨x_227, ex_227⟩ : ∃ z, z = x_215 + 1 := ⟨_, rfl⟩
              have jx_227 : (x_227).toInt = (x_215).toInt + 1 := by rw [ex_227]; exact dk_addT2 rfl (by decide +kernel) (by omega)
              refine lv_iinc (v := x_227) (lv' := [(2, .int x_227), (3, .int x_222), (0, .ref (o + pt)), (1, .ref (o + gr))]) hx hb dX5_begin_54 hl (k := 1) rfl (by rw [ex_227]; rfl) (dk_dq rfl) rfl (fun ls hl => ?_)
              refine lv_goto (tgt := 21) hx hb dX5_begin_57 (dk_dq rfl) ?_
              exact ih x_227 (by omega) (by first | exact mu_lt hmu (by omega) (by omega) | omega) S_225 I_225 M_225 (dg_FG.tr G_216 gs_225) ((dg_uf_F e_225 pt 0).trans ff_216_0_pt) ((dg_uf_F e_225 pt 1).trans ff_216_1_pt) (gs_225 pt hk_pt fl_216_0) (lp_l hF_4 (F_p_begin_p5 (zI_eq f_x_218) c_219 ex_221 ex_222 e_225 ex_227)) _ _ hP hS _ (lv_sub hl [0, 2, 3] rfl)
  have hz_228 : (0 : Int32).toInt = 0 := by decide +kernel
  have hz_229 : (0 : Int32).toInt = 0 := by decide +kernel
  exact L_217 ((8 - ((0 : Int32)).toInt).toNat + 1) 0 (by decide +kernel) (by first | exact mu_lt hmu (by omega) (by omega) | omega) S_6 I_6 M_6 (dg_FG.tr (dg_FG.tr (dg_FG.uF e_2) (dg_FG.uF e_4)) gs_6) (((dg_uf_F e_6 pt 0).trans (dg_uF_ne e_4 (fun z => absurd z.2 (dk_dq rfl)))).trans (dg_uF_at e_2)) ((dg_uf_F e_6 pt 1).trans (dg_uF_at e_4)) fi_6 (F_p_begin_p6 (zI_eq f_cx) (zI_eq f_sx) e_2 e_4 hf_6 e_6) _ _ hP hS _ (lv_sub hl [0, 1, 2] rfl)
