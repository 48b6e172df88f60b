/-! 14.fore.lean.txt -/
theorem dX1_forget_0 : decode cX1_forget 0 = .ok (.aload_n 0, 1) := dk_o42 (by decide +kernel)
theorem dX1_forget_1 : decode cX1_forget 1 = .ok (.iconst 0, 1) := dk_o3 (by decide +kernel)
theorem dX1_forget_2 : decode cX1_forget 2 = .ok (.putfield 38, 3) := dk_o181 (by decide +kernel)
theorem dX1_forget_5 : decode cX1_forget 5 = .ok (.aload_n 0, 1) := dk_o42 (by decide +kernel)
theorem dX1_forget_6 : decode cX1_forget 6 = .ok (.iconst 0, 1) := dk_o3 (by decide +kernel)
theorem dX1_forget_7 : decode cX1_forget 7 = .ok (.putfield 41, 3) := dk_o181 (by decide +kernel)
theorem dX1_forget_10 : decode cX1_forget 10 = .ok (.return_, 1) := dk_o177 (by decide +kernel)
theorem dX1_seekShade_0 : decode cX1_seekShade 0 = .ok (.aload_n 0, 1) := dk_o42 (by decide +kernel)
theorem dX1_seekShade_1 : decode cX1_seekShade 1 = .ok (.getfield 38, 3) := dk_o180 (by decide +kernel)
theorem dX1_seekShade_4 : decode cX1_seekShade 4 = .ok (.iload_n 3, 1) := dk_o29 (by decide +kernel)
theorem dX1_seekShade_5 : decode cX1_seekShade 5 = .ok (.if_icmp .ne 4, 3) := dk_o160 (by decide +kernel)
theorem dX1_seekShade_8 : decode cX1_seekShade 8 = .ok (.return_, 1) := dk_o177 (by decide +kernel)
theorem dX1_seekShade_9 : decode cX1_seekShade 9 = .ok (.aload_n 0, 1) := dk_o42 (by decide +kernel)
theorem dX1_seekShade_10 : decode cX1_seekShade 10 = .ok (.iload_n 3, 1) := dk_o29 (by decide +kernel)
theorem dX1_seekShade_11 : decode cX1_seekShade 11 = .ok (.putfield 38, 3) := dk_o181 (by decide +kernel)
theorem dX1_seekShade_14 : decode cX1_seekShade 14 = .ok (.aload_n 0, 1) := dk_o42 (by decide +kernel)
theorem dX1_seekShade_15 : decode cX1_seekShade 15 = .ok (.iconst (-1), 1) := dk_o2 (by decide +kernel)
theorem dX1_seekShade_16 : decode cX1_seekShade 16 = .ok (.putfield 18, 3) := dk_o181 (by decide +kernel)
theorem dX1_seekShade_19 : decode cX1_seekShade 19 = .ok (.aload_n 0, 1) := dk_o42 (by decide +kernel)
theorem dX1_seekShade_20 : decode cX1_seekShade 20 = .ok (.iconst (-1), 1) := dk_o2 (by decide +kernel)
theorem dX1_seekShade_21 : decode cX1_seekShade 21 = .ok (.putfield 22, 3) := dk_o181 (by decide +kernel)
theorem dX1_seekShade_24 : decode cX1_seekShade 24 = .ok (.iconst 0, 1) := dk_o3 (by decide +kernel)
theorem dX1_seekShade_25 : decode cX1_seekShade 25 = .ok (.istore 4, 2) := dk_o54 (by decide +kernel)
theorem dX1_seekShade_27 : decode cX1_seekShade 27 = .ok (.iload 4, 2) := dk_o21 (by decide +kernel)
theorem dX1_seekShade_29 : decode cX1_seekShade 29 = .ok (.bipush 72, 2) := dk_o16 (by decide +kernel)
theorem dX1_seekShade_31 : decode cX1_seekShade 31 = .ok (.if_icmp .ge 40, 3) := dk_o162 (by decide +kernel)
theorem dX1_seekShade_34 : decode cX1_seekShade 34 = .ok (.aload_n 2, 1) := dk_o44 (by decide +kernel)
theorem dX1_seekShade_35 : decode cX1_seekShade 35 = .ok (.getfield 44, 3) := dk_o180 (by decide +kernel)
theorem dX1_seekShade_38 : decode cX1_seekShade 38 = .ok (.iload 4, 2) := dk_o21 (by decide +kernel)
theorem dX1_seekShade_40 : decode cX1_seekShade 40 = .ok (.iaload, 1) := dk_o46 (by decide +kernel)
theorem dX1_seekShade_41 : decode cX1_seekShade 41 = .ok (.sipush 255, 3) := dk_o17 (by decide +kernel)
theorem dX1_seekShade_44 : decode cX1_seekShade 44 = .ok (.if_icmp .ne 21, 3) := dk_o160 (by decide +kernel)
theorem dX1_seekShade_47 : decode cX1_seekShade 47 = .ok (.iload 4, 2) := dk_o21 (by decide +kernel)
theorem dX1_seekShade_49 : decode cX1_seekShade 49 = .ok (.aload_n 1, 1) := dk_o43 (by decide +kernel)
theorem dX1_seekShade_50 : decode cX1_seekShade 50 = .ok (.getfield 48, 3) := dk_o180 (by decide +kernel)
theorem dX1_seekShade_53 : decode cX1_seekShade 53 = .ok (.if_icmp .eq 12, 3) := dk_o159 (by decide +kernel)
theorem dX1_seekShade_56 : decode cX1_seekShade 56 = .ok (.aload_n 0, 1) := dk_o42 (by decide +kernel)
theorem dX1_seekShade_57 : decode cX1_seekShade 57 = .ok (.aload_n 1, 1) := dk_o43 (by decide +kernel)
theorem dX1_seekShade_58 : decode cX1_seekShade 58 = .ok (.aload_n 2, 1) := dk_o44 (by decide +kernel)
theorem dX1_seekShade_59 : decode cX1_seekShade 59 = .ok (.iload_n 3, 1) := dk_o29 (by decide +kernel)
theorem dX1_seekShade_60 : decode cX1_seekShade 60 = .ok (.iload 4, 2) := dk_o21 (by decide +kernel)
theorem dX1_seekShade_62 : decode cX1_seekShade 62 = .ok (.invokevirtual 53, 3) := dk_o182 (by decide +kernel)
theorem dX1_seekShade_65 : decode cX1_seekShade 65 = .ok (.iinc 4 1, 3) := dk_o132 (by decide +kernel)
theorem dX1_seekShade_68 : decode cX1_seekShade 68 = .ok (.goto (-41), 3) := dk_o167 (by decide +kernel)
theorem dX1_seekShade_71 : decode cX1_seekShade 71 = .ok (.return_, 1) := dk_o177 (by decide +kernel)
theorem dX1_tryShade_0 : decode cX1_tryShade 0 = .ok (.aload_n 0, 1) := dk_o42 (by decide +kernel)
theorem dX1_tryShade_1 : decode cX1_tryShade 1 = .ok (.getfield 12, 3) := dk_o180 (by decide +kernel)
theorem dX1_tryShade_4 : decode cX1_tryShade 4 = .ok (.aload_n 2, 1) := dk_o44 (by decide +kernel)
theorem dX1_tryShade_5 : decode cX1_tryShade 5 = .ok (.invokevirtual 57, 3) := dk_o182 (by decide +kernel)
theorem dX1_tryShade_8 : decode cX1_tryShade 8 = .ok (.aload_n 0, 1) := dk_o42 (by decide +kernel)
theorem dX1_tryShade_9 : decode cX1_tryShade 9 = .ok (.getfield 12, 3) := dk_o180 (by decide +kernel)
theorem dX1_tryShade_12 : decode cX1_tryShade 12 = .ok (.getfield 44, 3) := dk_o180 (by decide +kernel)
theorem dX1_tryShade_15 : decode cX1_tryShade 15 = .ok (.iload 4, 2) := dk_o21 (by decide +kernel)
theorem dX1_tryShade_17 : decode cX1_tryShade 17 = .ok (.sipush 254, 3) := dk_o17 (by decide +kernel)
theorem dX1_tryShade_20 : decode cX1_tryShade 20 = .ok (.iastore, 1) := dk_o79 (by decide +kernel)
theorem dX1_tryShade_21 : decode cX1_tryShade 21 = .ok (.aload_n 0, 1) := dk_o42 (by decide +kernel)
theorem dX1_tryShade_22 : decode cX1_tryShade 22 = .ok (.getfield 34, 3) := dk_o180 (by decide +kernel)
theorem dX1_tryShade_25 : decode cX1_tryShade 25 = .ok (.aload_n 1, 1) := dk_o43 (by decide +kernel)
theorem dX1_tryShade_26 : decode cX1_tryShade 26 = .ok (.aload_n 0, 1) := dk_o42 (by decide +kernel)
theorem dX1_tryShade_27 : decode cX1_tryShade 27 = .ok (.getfield 12, 3) := dk_o180 (by decide +kernel)
theorem dX1_tryShade_30 : decode cX1_tryShade 30 = .ok (.aload_n 1, 1) := dk_o43 (by decide +kernel)
theorem dX1_tryShade_31 : decode cX1_tryShade 31 = .ok (.getfield 61, 3) := dk_o180 (by decide +kernel)
theorem dX1_tryShade_34 : decode cX1_tryShade 34 = .ok (.invokevirtual 64, 3) := dk_o182 (by decide +kernel)
theorem dX1_tryShade_37 : decode cX1_tryShade 37 = .ok (.aload_n 0, 1) := dk_o42 (by decide +kernel)
theorem dX1_tryShade_38 : decode cX1_tryShade 38 = .ok (.getfield 34, 3) := dk_o180 (by decide +kernel)
theorem dX1_tryShade_41 : decode cX1_tryShade 41 = .ok (.iload_n 3, 1) := dk_o29 (by decide +kernel)
theorem dX1_tryShade_42 : decode cX1_tryShade 42 = .ok (.invokevirtual 70, 3) := dk_o182 (by decide +kernel)
theorem dX1_tryShade_45 : decode cX1_tryShade 45 = .ok (.aload_n 0, 1) := dk_o42 (by decide +kernel)
theorem dX1_tryShade_46 : decode cX1_tryShade 46 = .ok (.getfield 12, 3) := dk_o180 (by decide +kernel)
theorem dX1_tryShade_49 : decode cX1_tryShade 49 = .ok (.invokevirtual 74, 3) := dk_o182 (by decide +kernel)
theorem dX1_tryShade_52 : decode cX1_tryShade 52 = .ok (.istore 5, 2) := dk_o54 (by decide +kernel)
theorem dX1_tryShade_54 : decode cX1_tryShade 54 = .ok (.iload 5, 2) := dk_o21 (by decide +kernel)
theorem dX1_tryShade_56 : decode cX1_tryShade 56 = .ok (.aload_n 0, 1) := dk_o42 (by decide +kernel)
theorem dX1_tryShade_57 : decode cX1_tryShade 57 = .ok (.getfield 22, 3) := dk_o180 (by decide +kernel)
theorem dX1_tryShade_60 : decode cX1_tryShade 60 = .ok (.if_icmp .le 15, 3) := dk_o164 (by decide +kernel)
theorem dX1_tryShade_63 : decode cX1_tryShade 63 = .ok (.aload_n 0, 1) := dk_o42 (by decide +kernel)
theorem dX1_tryShade_64 : decode cX1_tryShade 64 = .ok (.iload 4, 2) := dk_o21 (by decide +kernel)
theorem dX1_tryShade_66 : decode cX1_tryShade 66 = .ok (.putfield 18, 3) := dk_o181 (by decide +kernel)
theorem dX1_tryShade_69 : decode cX1_tryShade 69 = .ok (.aload_n 0, 1) := dk_o42 (by decide +kernel)
theorem dX1_tryShade_70 : decode cX1_tryShade 70 = .ok (.iload 5, 2) := dk_o21 (by decide +kernel)
theorem dX1_tryShade_72 : decode cX1_tryShade 72 = .ok (.putfield 22, 3) := dk_o181 (by decide +kernel)
theorem dX1_tryShade_75 : decode cX1_tryShade 75 = .ok (.return_, 1) := dk_o177 (by decide +kernel)
theorem dX1_seekChange_0 : decode cX1_seekChange 0 = .ok (.aload_n 0, 1) := dk_o42 (by decide +kernel)
theorem dX1_seekChange_1 : decode cX1_seekChange 1 = .ok (.getfield 41, 3) := dk_o180 (by decide +kernel)
theorem dX1_seekChange_4 : decode cX1_seekChange 4 = .ok (.iload_n 3, 1) := dk_o29 (by decide +kernel)
theorem dX1_seekChange_5 : decode cX1_seekChange 5 = .ok (.if_icmp .ne 4, 3) := dk_o160 (by decide +kernel)
theorem dX1_seekChange_8 : decode cX1_seekChange 8 = .ok (.return_, 1) := dk_o177 (by decide +kernel)
theorem dX1_seekChange_9 : decode cX1_seekChange 9 = .ok (.aload_n 0, 1) := dk_o42 (by decide +kernel)
theorem dX1_seekChange_10 : decode cX1_seekChange 10 = .ok (.iload_n 3, 1) := dk_o29 (by decide +kernel)
theorem dX1_seekChange_11 : decode cX1_seekChange 11 = .ok (.putfield 41, 3) := dk_o181 (by decide +kernel)
theorem dX1_seekChange_14 : decode cX1_seekChange 14 = .ok (.aload_n 0, 1) := dk_o42 (by decide +kernel)
theorem dX1_seekChange_15 : decode cX1_seekChange 15 = .ok (.iconst (-1), 1) := dk_o2 (by decide +kernel)
theorem dX1_seekChange_16 : decode cX1_seekChange 16 = .ok (.putfield 25, 3) := dk_o181 (by decide +kernel)
theorem dX1_seekChange_19 : decode cX1_seekChange 19 = .ok (.aload_n 0, 1) := dk_o42 (by decide +kernel)
theorem dX1_seekChange_20 : decode cX1_seekChange 20 = .ok (.iconst (-1), 1) := dk_o2 (by decide +kernel)
theorem dX1_seekChange_21 : decode cX1_seekChange 21 = .ok (.putfield 28, 3) := dk_o181 (by decide +kernel)
theorem dX1_seekChange_24 : decode cX1_seekChange 24 = .ok (.aload_n 0, 1) := dk_o42 (by decide +kernel)
theorem dX1_seekChange_25 : decode cX1_seekChange 25 = .ok (.aload_n 0, 1) := dk_o42 (by decide +kernel)
theorem dX1_seekChange_26 : decode cX1_seekChange 26 = .ok (.aload_n 1, 1) := dk_o43 (by decide +kernel)
theorem dX1_seekChange_27 : decode cX1_seekChange 27 = .ok (.aload_n 2, 1) := dk_o44 (by decide +kernel)
theorem dX1_seekChange_28 : decode cX1_seekChange 28 = .ok (.iload_n 3, 1) := dk_o29 (by decide +kernel)
theorem dX1_seekChange_29 : decode cX1_seekChange 29 = .ok (.iconst 0, 1) := dk_o3 (by decide +kernel)
theorem dX1_seekChange_30 : decode cX1_seekChange 30 = .ok (.iconst 0, 1) := dk_o3 (by decide +kernel)
theorem dX1_seekChange_31 : decode cX1_seekChange 31 = .ok (.invokevirtual 78, 3) := dk_o182 (by decide +kernel)
theorem dX1_seekChange_34 : decode cX1_seekChange 34 = .ok (.putfield 31, 3) := dk_o181 (by decide +kernel)
theorem dX1_seekChange_37 : decode cX1_seekChange 37 = .ok (.iconst 0, 1) := dk_o3 (by decide +kernel)
theorem dX1_seekChange_38 : decode cX1_seekChange 38 = .ok (.istore 4, 2) := dk_o54 (by decide +kernel)
theorem dX1_seekChange_40 : decode cX1_seekChange 40 = .ok (.iload 4, 2) := dk_o21 (by decide +kernel)
theorem dX1_seekChange_42 : decode cX1_seekChange 42 = .ok (.aload_n 1, 1) := dk_o43 (by decide +kernel)
theorem dX1_seekChange_43 : decode cX1_seekChange 43 = .ok (.getfield 82, 3) := dk_o180 (by decide +kernel)
theorem dX1_seekChange_46 : decode cX1_seekChange 46 = .ok (.if_icmp .ge 70, 3) := dk_o162 (by decide +kernel)
theorem dX1_seekChange_49 : decode cX1_seekChange 49 = .ok (.iload 4, 2) := dk_o21 (by decide +kernel)
theorem dX1_seekChange_51 : decode cX1_seekChange 51 = .ok (.iconst 1, 1) := dk_o4 (by decide +kernel)
theorem dX1_seekChange_52 : decode cX1_seekChange 52 = .ok (.iadd, 1) := dk_o96 (by decide +kernel)
theorem dX1_seekChange_53 : decode cX1_seekChange 53 = .ok (.istore 5, 2) := dk_o54 (by decide +kernel)
theorem dX1_seekChange_55 : decode cX1_seekChange 55 = .ok (.iload 5, 2) := dk_o21 (by decide +kernel)
theorem dX1_seekChange_57 : decode cX1_seekChange 57 = .ok (.aload_n 1, 1) := dk_o43 (by decide +kernel)
theorem dX1_seekChange_58 : decode cX1_seekChange 58 = .ok (.getfield 82, 3) := dk_o180 (by decide +kernel)
theorem dX1_seekChange_61 : decode cX1_seekChange 61 = .ok (.if_icmp .ge 49, 3) := dk_o162 (by decide +kernel)
theorem dX1_seekChange_64 : decode cX1_seekChange 64 = .ok (.aload_n 0, 1) := dk_o42 (by decide +kernel)
theorem dX1_seekChange_65 : decode cX1_seekChange 65 = .ok (.aload_n 1, 1) := dk_o43 (by decide +kernel)
theorem dX1_seekChange_66 : decode cX1_seekChange 66 = .ok (.aload_n 2, 1) := dk_o44 (by decide +kernel)
theorem dX1_seekChange_67 : decode cX1_seekChange 67 = .ok (.iload_n 3, 1) := dk_o29 (by decide +kernel)
theorem dX1_seekChange_68 : decode cX1_seekChange 68 = .ok (.iload 4, 2) := dk_o21 (by decide +kernel)
theorem dX1_seekChange_70 : decode cX1_seekChange 70 = .ok (.iload 5, 2) := dk_o21 (by decide +kernel)
theorem dX1_seekChange_72 : decode cX1_seekChange 72 = .ok (.invokevirtual 78, 3) := dk_o182 (by decide +kernel)
theorem dX1_seekChange_75 : decode cX1_seekChange 75 = .ok (.istore 6, 2) := dk_o54 (by decide +kernel)
theorem dX1_seekChange_77 : decode cX1_seekChange 77 = .ok (.iload 6, 2) := dk_o21 (by decide +kernel)
theorem dX1_seekChange_79 : decode cX1_seekChange 79 = .ok (.aload_n 0, 1) := dk_o42 (by decide +kernel)
theorem dX1_seekChange_80 : decode cX1_seekChange 80 = .ok (.getfield 31, 3) := dk_o180 (by decide +kernel)
theorem dX1_seekChange_83 : decode cX1_seekChange 83 = .ok (.if_icmp .le 21, 3) := dk_o164 (by decide +kernel)
theorem dX1_seekChange_86 : decode cX1_seekChange 86 = .ok (.aload_n 0, 1) := dk_o42 (by decide +kernel)
theorem dX1_seekChange_87 : decode cX1_seekChange 87 = .ok (.iload 4, 2) := dk_o21 (by decide +kernel)
theorem dX1_seekChange_89 : decode cX1_seekChange 89 = .ok (.putfield 25, 3) := dk_o181 (by decide +kernel)
theorem dX1_seekChange_92 : decode cX1_seekChange 92 = .ok (.aload_n 0, 1) := dk_o42 (by decide +kernel)
theorem dX1_seekChange_93 : decode cX1_seekChange 93 = .ok (.iload 5, 2) := dk_o21 (by decide +kernel)
theorem dX1_seekChange_95 : decode cX1_seekChange 95 = .ok (.putfield 28, 3) := dk_o181 (by decide +kernel)
theorem dX1_seekChange_98 : decode cX1_seekChange 98 = .ok (.aload_n 0, 1) := dk_o42 (by decide +kernel)
theorem dX1_seekChange_99 : decode cX1_seekChange 99 = .ok (.iload 6, 2) := dk_o21 (by decide +kernel)
theorem dX1_seekChange_101 : decode cX1_seekChange 101 = .ok (.putfield 31, 3) := dk_o181 (by decide +kernel)
theorem dX1_seekChange_104 : decode cX1_seekChange 104 = .ok (.iinc 5 1, 3) := dk_o132 (by decide +kernel)
theorem dX1_seekChange_107 : decode cX1_seekChange 107 = .ok (.goto (-52), 3) := dk_o167 (by decide +kernel)
theorem dX1_seekChange_110 : decode cX1_seekChange 110 = .ok (.iinc 4 1, 3) := dk_o132 (by decide +kernel)
theorem dX1_seekChange_113 : decode cX1_seekChange 113 = .ok (.goto (-73), 3) := dk_o167 (by decide +kernel)
theorem dX1_seekChange_116 : decode cX1_seekChange 116 = .ok (.return_, 1) := dk_o177 (by decide +kernel)
theorem dX1_gradesBehind_0 : decode cX1_gradesBehind 0 = .ok (.aload_n 0, 1) := dk_o42 (by decide +kernel)
theorem dX1_gradesBehind_1 : decode cX1_gradesBehind 1 = .ok (.getfield 12, 3) := dk_o180 (by decide +kernel)
theorem dX1_gradesBehind_4 : decode cX1_gradesBehind 4 = .ok (.aload_n 2, 1) := dk_o44 (by decide +kernel)
theorem dX1_gradesBehind_5 : decode cX1_gradesBehind 5 = .ok (.invokevirtual 57, 3) := dk_o182 (by decide +kernel)
theorem dX1_gradesBehind_8 : decode cX1_gradesBehind 8 = .ok (.aload_n 0, 1) := dk_o42 (by decide +kernel)
theorem dX1_gradesBehind_9 : decode cX1_gradesBehind 9 = .ok (.getfield 12, 3) := dk_o180 (by decide +kernel)
theorem dX1_gradesBehind_12 : decode cX1_gradesBehind 12 = .ok (.iload 4, 2) := dk_o21 (by decide +kernel)
theorem dX1_gradesBehind_14 : decode cX1_gradesBehind 14 = .ok (.iload 5, 2) := dk_o21 (by decide +kernel)
theorem dX1_gradesBehind_16 : decode cX1_gradesBehind 16 = .ok (.invokevirtual 85, 3) := dk_o182 (by decide +kernel)
theorem dX1_gradesBehind_19 : decode cX1_gradesBehind 19 = .ok (.aload_n 0, 1) := dk_o42 (by decide +kernel)
theorem dX1_gradesBehind_20 : decode cX1_gradesBehind 20 = .ok (.getfield 34, 3) := dk_o180 (by decide +kernel)
theorem dX1_gradesBehind_23 : decode cX1_gradesBehind 23 = .ok (.aload_n 1, 1) := dk_o43 (by decide +kernel)
theorem dX1_gradesBehind_24 : decode cX1_gradesBehind 24 = .ok (.aload_n 0, 1) := dk_o42 (by decide +kernel)
theorem dX1_gradesBehind_25 : decode cX1_gradesBehind 25 = .ok (.getfield 12, 3) := dk_o180 (by decide +kernel)
theorem dX1_gradesBehind_28 : decode cX1_gradesBehind 28 = .ok (.aload_n 1, 1) := dk_o43 (by decide +kernel)
theorem dX1_gradesBehind_29 : decode cX1_gradesBehind 29 = .ok (.getfield 61, 3) := dk_o180 (by decide +kernel)
theorem dX1_gradesBehind_32 : decode cX1_gradesBehind 32 = .ok (.invokevirtual 64, 3) := dk_o182 (by decide +kernel)
theorem dX1_gradesBehind_35 : decode cX1_gradesBehind 35 = .ok (.aload_n 0, 1) := dk_o42 (by decide +kernel)
theorem dX1_gradesBehind_36 : decode cX1_gradesBehind 36 = .ok (.getfield 34, 3) := dk_o180 (by decide +kernel)
theorem dX1_gradesBehind_39 : decode cX1_gradesBehind 39 = .ok (.iload_n 3, 1) := dk_o29 (by decide +kernel)
theorem dX1_gradesBehind_40 : decode cX1_gradesBehind 40 = .ok (.invokevirtual 70, 3) := dk_o182 (by decide +kernel)
theorem dX1_gradesBehind_43 : decode cX1_gradesBehind 43 = .ok (.aload_n 0, 1) := dk_o42 (by decide +kernel)
theorem dX1_gradesBehind_44 : decode cX1_gradesBehind 44 = .ok (.getfield 12, 3) := dk_o180 (by decide +kernel)
theorem dX1_gradesBehind_47 : decode cX1_gradesBehind 47 = .ok (.invokevirtual 89, 3) := dk_o182 (by decide +kernel)
theorem dX1_gradesBehind_50 : decode cX1_gradesBehind 50 = .ok (.ireturn, 1) := dk_o172 (by decide +kernel)
theorem dX1_oddsOf_0 : decode cX1_oddsOf 0 = .ok (.aload_n 1, 1) := dk_o43 (by decide +kernel)
theorem dX1_oddsOf_1 : decode cX1_oddsOf 1 = .ok (.getfield 92, 3) := dk_o180 (by decide +kernel)
theorem dX1_oddsOf_4 : decode cX1_oddsOf 4 = .ok (.aload_n 1, 1) := dk_o43 (by decide +kernel)
theorem dX1_oddsOf_5 : decode cX1_oddsOf 5 = .ok (.getfield 95, 3) := dk_o180 (by decide +kernel)
theorem dX1_oddsOf_8 : decode cX1_oddsOf 8 = .ok (.imul, 1) := dk_o104 (by decide +kernel)
theorem dX1_oddsOf_9 : decode cX1_oddsOf 9 = .ok (.istore 4, 2) := dk_o54 (by decide +kernel)
theorem dX1_oddsOf_11 : decode cX1_oddsOf 11 = .ok (.aload_n 0, 1) := dk_o42 (by decide +kernel)
theorem dX1_oddsOf_12 : decode cX1_oddsOf 12 = .ok (.aload_n 1, 1) := dk_o43 (by decide +kernel)
theorem dX1_oddsOf_13 : decode cX1_oddsOf 13 = .ok (.aload_n 2, 1) := dk_o44 (by decide +kernel)
theorem dX1_oddsOf_14 : decode cX1_oddsOf 14 = .ok (.iconst (-1), 1) := dk_o2 (by decide +kernel)
theorem dX1_oddsOf_15 : decode cX1_oddsOf 15 = .ok (.iload_n 3, 1) := dk_o29 (by decide +kernel)
theorem dX1_oddsOf_16 : decode cX1_oddsOf 16 = .ok (.invokevirtual 98, 3) := dk_o182 (by decide +kernel)
theorem dX1_oddsOf_19 : decode cX1_oddsOf 19 = .ok (.istore 5, 2) := dk_o54 (by decide +kernel)
theorem dX1_oddsOf_21 : decode cX1_oddsOf 21 = .ok (.iload 5, 2) := dk_o21 (by decide +kernel)
theorem dX1_oddsOf_23 : decode cX1_oddsOf 23 = .ok (.iload 4, 2) := dk_o21 (by decide +kernel)
theorem dX1_oddsOf_25 : decode cX1_oddsOf 25 = .ok (.imul, 1) := dk_o104 (by decide +kernel)
theorem dX1_oddsOf_26 : decode cX1_oddsOf 26 = .ok (.bipush 100, 2) := dk_o16 (by decide +kernel)
theorem dX1_oddsOf_28 : decode cX1_oddsOf 28 = .ok (.aload_n 1, 1) := dk_o43 (by decide +kernel)
theorem dX1_oddsOf_29 : decode cX1_oddsOf 29 = .ok (.getfield 102, 3) := dk_o180 (by decide +kernel)
theorem dX1_oddsOf_32 : decode cX1_oddsOf 32 = .ok (.isub, 1) := dk_o100 (by decide +kernel)
theorem dX1_oddsOf_33 : decode cX1_oddsOf 33 = .ok (.imul, 1) := dk_o104 (by decide +kernel)
theorem dX1_oddsOf_34 : decode cX1_oddsOf 34 = .ok (.istore 6, 2) := dk_o54 (by decide +kernel)
theorem dX1_oddsOf_36 : decode cX1_oddsOf 36 = .ok (.bipush 8, 2) := dk_o16 (by decide +kernel)
theorem dX1_oddsOf_38 : decode cX1_oddsOf 38 = .ok (.istore 7, 2) := dk_o54 (by decide +kernel)
theorem dX1_oddsOf_40 : decode cX1_oddsOf 40 = .ok (.iload 7, 2) := dk_o21 (by decide +kernel)
theorem dX1_oddsOf_42 : decode cX1_oddsOf 42 = .ok (.aload_n 1, 1) := dk_o43 (by decide +kernel)
theorem dX1_oddsOf_43 : decode cX1_oddsOf 43 = .ok (.invokevirtual 105, 3) := dk_o182 (by decide +kernel)
theorem dX1_oddsOf_46 : decode cX1_oddsOf 46 = .ok (.if_icmp .ge 58, 3) := dk_o162 (by decide +kernel)
theorem dX1_oddsOf_49 : decode cX1_oddsOf 49 = .ok (.aload_n 2, 1) := dk_o44 (by decide +kernel)
theorem dX1_oddsOf_50 : decode cX1_oddsOf 50 = .ok (.getfield 44, 3) := dk_o180 (by decide +kernel)
theorem dX1_oddsOf_53 : decode cX1_oddsOf 53 = .ok (.iload 7, 2) := dk_o21 (by decide +kernel)
theorem dX1_oddsOf_55 : decode cX1_oddsOf 55 = .ok (.iaload, 1) := dk_o46 (by decide +kernel)
theorem dX1_oddsOf_56 : decode cX1_oddsOf 56 = .ok (.bipush 100, 2) := dk_o16 (by decide +kernel)
theorem dX1_oddsOf_58 : decode cX1_oddsOf 58 = .ok (.if_icmp .eq 40, 3) := dk_o159 (by decide +kernel)
theorem dX1_oddsOf_61 : decode cX1_oddsOf 61 = .ok (.aload_n 2, 1) := dk_o44 (by decide +kernel)
theorem dX1_oddsOf_62 : decode cX1_oddsOf 62 = .ok (.iload 7, 2) := dk_o21 (by decide +kernel)
theorem dX1_oddsOf_64 : decode cX1_oddsOf 64 = .ok (.invokevirtual 108, 3) := dk_o182 (by decide +kernel)
theorem dX1_oddsOf_67 : decode cX1_oddsOf 67 = .ok (.ifCond .eq 15, 3) := dk_o153 (by decide +kernel)
theorem dX1_oddsOf_70 : decode cX1_oddsOf 70 = .ok (.aload_n 0, 1) := dk_o42 (by decide +kernel)
theorem dX1_oddsOf_71 : decode cX1_oddsOf 71 = .ok (.aload_n 1, 1) := dk_o43 (by decide +kernel)
theorem dX1_oddsOf_72 : decode cX1_oddsOf 72 = .ok (.aload_n 2, 1) := dk_o44 (by decide +kernel)
theorem dX1_oddsOf_73 : decode cX1_oddsOf 73 = .ok (.iload 7, 2) := dk_o21 (by decide +kernel)
theorem dX1_oddsOf_75 : decode cX1_oddsOf 75 = .ok (.iload_n 3, 1) := dk_o29 (by decide +kernel)
theorem dX1_oddsOf_76 : decode cX1_oddsOf 76 = .ok (.invokevirtual 98, 3) := dk_o182 (by decide +kernel)
theorem dX1_oddsOf_79 : decode cX1_oddsOf 79 = .ok (.goto 5, 3) := dk_o167 (by decide +kernel)
theorem dX1_oddsOf_82 : decode cX1_oddsOf 82 = .ok (.iload 5, 2) := dk_o21 (by decide +kernel)
theorem dX1_oddsOf_84 : decode cX1_oddsOf 84 = .ok (.istore 8, 2) := dk_o54 (by decide +kernel)
theorem dX1_oddsOf_86 : decode cX1_oddsOf 86 = .ok (.iload 6, 2) := dk_o21 (by decide +kernel)
theorem dX1_oddsOf_88 : decode cX1_oddsOf 88 = .ok (.iload 8, 2) := dk_o21 (by decide +kernel)
theorem dX1_oddsOf_90 : decode cX1_oddsOf 90 = .ok (.aload_n 1, 1) := dk_o43 (by decide +kernel)
theorem dX1_oddsOf_91 : decode cX1_oddsOf 91 = .ok (.getfield 102, 3) := dk_o180 (by decide +kernel)
theorem dX1_oddsOf_94 : decode cX1_oddsOf 94 = .ok (.imul, 1) := dk_o104 (by decide +kernel)
theorem dX1_oddsOf_95 : decode cX1_oddsOf 95 = .ok (.iadd, 1) := dk_o96 (by decide +kernel)
theorem dX1_oddsOf_96 : decode cX1_oddsOf 96 = .ok (.istore 6, 2) := dk_o54 (by decide +kernel)
theorem dX1_oddsOf_98 : decode cX1_oddsOf 98 = .ok (.iinc 7 1, 3) := dk_o132 (by decide +kernel)
theorem dX1_oddsOf_101 : decode cX1_oddsOf 101 = .ok (.goto (-61), 3) := dk_o167 (by decide +kernel)
theorem dX1_oddsOf_104 : decode cX1_oddsOf 104 = .ok (.iload 6, 2) := dk_o21 (by decide +kernel)
theorem dX1_oddsOf_106 : decode cX1_oddsOf 106 = .ok (.ireturn, 1) := dk_o172 (by decide +kernel)
theorem dX1_openBehind_0 : decode cX1_openBehind 0 = .ok (.aload_n 0, 1) := dk_o42 (by decide +kernel)
theorem dX1_openBehind_1 : decode cX1_openBehind 1 = .ok (.getfield 12, 3) := dk_o180 (by decide +kernel)
theorem dX1_openBehind_4 : decode cX1_openBehind 4 = .ok (.aload_n 2, 1) := dk_o44 (by decide +kernel)
theorem dX1_openBehind_5 : decode cX1_openBehind 5 = .ok (.invokevirtual 57, 3) := dk_o182 (by decide +kernel)
theorem dX1_openBehind_8 : decode cX1_openBehind 8 = .ok (.aload_n 0, 1) := dk_o42 (by decide +kernel)
theorem dX1_openBehind_9 : decode cX1_openBehind 9 = .ok (.getfield 34, 3) := dk_o180 (by decide +kernel)
theorem dX1_openBehind_12 : decode cX1_openBehind 12 = .ok (.aload_n 1, 1) := dk_o43 (by decide +kernel)
theorem dX1_openBehind_13 : decode cX1_openBehind 13 = .ok (.aload_n 0, 1) := dk_o42 (by decide +kernel)
theorem dX1_openBehind_14 : decode cX1_openBehind 14 = .ok (.getfield 12, 3) := dk_o180 (by decide +kernel)
theorem dX1_openBehind_17 : decode cX1_openBehind 17 = .ok (.aload_n 1, 1) := dk_o43 (by decide +kernel)
theorem dX1_openBehind_18 : decode cX1_openBehind 18 = .ok (.getfield 61, 3) := dk_o180 (by decide +kernel)
theorem dX1_openBehind_21 : decode cX1_openBehind 21 = .ok (.invokevirtual 64, 3) := dk_o182 (by decide +kernel)
theorem dX1_openBehind_24 : decode cX1_openBehind 24 = .ok (.aload_n 0, 1) := dk_o42 (by decide +kernel)
theorem dX1_openBehind_25 : decode cX1_openBehind 25 = .ok (.getfield 34, 3) := dk_o180 (by decide +kernel)
theorem dX1_openBehind_28 : decode cX1_openBehind 28 = .ok (.iload_n 3, 1) := dk_o29 (by decide +kernel)
theorem dX1_openBehind_29 : decode cX1_openBehind 29 = .ok (.invokevirtual 112, 3) := dk_o182 (by decide +kernel)
theorem dX1_openBehind_32 : decode cX1_openBehind 32 = .ok (.pop, 1) := dk_o87 (by decide +kernel)
theorem dX1_openBehind_33 : decode cX1_openBehind 33 = .ok (.aload_n 0, 1) := dk_o42 (by decide +kernel)
theorem dX1_openBehind_34 : decode cX1_openBehind 34 = .ok (.getfield 34, 3) := dk_o180 (by decide +kernel)
theorem dX1_openBehind_37 : decode cX1_openBehind 37 = .ok (.iconst 1, 1) := dk_o4 (by decide +kernel)
theorem dX1_openBehind_38 : decode cX1_openBehind 38 = .ok (.invokevirtual 70, 3) := dk_o182 (by decide +kernel)
theorem dX1_openBehind_41 : decode cX1_openBehind 41 = .ok (.aload_n 0, 1) := dk_o42 (by decide +kernel)
theorem dX1_openBehind_42 : decode cX1_openBehind 42 = .ok (.getfield 12, 3) := dk_o180 (by decide +kernel)
theorem dX1_openBehind_45 : decode cX1_openBehind 45 = .ok (.iload 4, 2) := dk_o21 (by decide +kernel)
theorem dX1_openBehind_47 : decode cX1_openBehind 47 = .ok (.invokevirtual 108, 3) := dk_o182 (by decide +kernel)
theorem dX1_openBehind_50 : decode cX1_openBehind 50 = .ok (.ifCond .eq 7, 3) := dk_o153 (by decide +kernel)
theorem dX1_openBehind_53 : decode cX1_openBehind 53 = .ok (.iconst 1, 1) := dk_o4 (by decide +kernel)
theorem dX1_openBehind_54 : decode cX1_openBehind 54 = .ok (.goto 4, 3) := dk_o167 (by decide +kernel)
theorem dX1_openBehind_57 : decode cX1_openBehind 57 = .ok (.iconst 0, 1) := dk_o3 (by decide +kernel)
theorem dX1_openBehind_58 : decode cX1_openBehind 58 = .ok (.ireturn, 1) := dk_o172 (by decide +kernel)
theorem wB_667 : Cond.fieldLink RX1 38 "DarkMine$Foresight" "shadeFor" "I" ∈ dgB := List.mem_filter.mpr ⟨tbl_2 _ (List.mem_of_getElem? (i := 202) (by decide +kernel)), by decide +kernel⟩
theorem wB_668 : Cond.fieldLink RX1 41 "DarkMine$Foresight" "changeFor" "I" ∈ dgB := List.mem_filter.mpr ⟨tbl_2 _ (List.mem_of_getElem? (i := 203) (by decide +kernel)), by decide +kernel⟩
theorem wB_669 : Cond.fieldLink RX1 12 "DarkMine$Foresight" "trial" "LDarkMine$Pit;" ∈ dgB := List.mem_filter.mpr ⟨tbl_2 _ (List.mem_of_getElem? (i := 201) (by decide +kernel)), by decide +kernel⟩
theorem wB_670 : Cond.methodLink RX1 57 yX5_copy ∈ dgB := List.mem_filter.mpr ⟨tbl_5 _ (List.mem_of_getElem? (i := 140) (by decide +kernel)), by decide +kernel⟩
theorem wB_671 : Cond.fieldLink RX1 44 "DarkMine$Pit" "cells" "[I" ∈ dgB := List.mem_filter.mpr ⟨tbl_1 _ (List.mem_of_getElem? (i := 67) (by decide +kernel)), by decide +kernel⟩
theorem wB_672 : Cond.fieldLink RX1 34 "DarkMine$Foresight" "works" "LDarkMine$Works;" ∈ dgB := List.mem_filter.mpr ⟨tbl_2 _ (List.mem_of_getElem? (i := 200) (by decide +kernel)), by decide +kernel⟩
theorem wB_673 : Cond.fieldLink RX1 61 "DarkMine$Ground" "reach" "I" ∈ dgB := List.mem_filter.mpr ⟨tbl_1 _ (List.mem_of_getElem? (i := 195) (by decide +kernel)), by decide +kernel⟩
theorem wB_674 : Cond.code yX10_enter cX10_enter 4 none ∈ dgB := List.mem_filter.mpr ⟨tbl_4 _ (List.mem_of_getElem? (i := 159) rfl), rfl⟩
theorem wB_675 : Cond.methodLink RX1 64 yX10_enter ∈ dgB := List.mem_filter.mpr ⟨tbl_5 _ (List.mem_of_getElem? (i := 141) (by decide +kernel)), by decide +kernel⟩
theorem wB_676 : Cond.instanceMethod yX10_enter ∈ dgB := List.mem_filter.mpr ⟨tbl_4 _ (List.mem_of_getElem? (i := 157) (by decide +kernel)), by decide +kernel⟩
theorem wB_677 : Cond.selects RX10 yX10_enter yX10_enter ∈ dgB := List.mem_filter.mpr ⟨tbl_4 _ (List.mem_of_getElem? (i := 158) (by decide +kernel)), by decide +kernel⟩
theorem wB_678 : Cond.code yX10_pass cX10_pass 3 none ∈ dgB := List.mem_filter.mpr ⟨tbl_5 _ (List.mem_of_getElem? (i := 99) rfl), rfl⟩
theorem wB_679 : Cond.methodLink RX1 70 yX10_pass ∈ dgB := List.mem_filter.mpr ⟨tbl_5 _ (List.mem_of_getElem? (i := 142) (by decide +kernel)), by decide +kernel⟩
theorem wB_680 : Cond.instanceMethod yX10_pass ∈ dgB := List.mem_filter.mpr ⟨tbl_5 _ (List.mem_of_getElem? (i := 97) (by decide +kernel)), by decide +kernel⟩
theorem wB_681 : Cond.selects RX10 yX10_pass yX10_pass ∈ dgB := List.mem_filter.mpr ⟨tbl_5 _ (List.mem_of_getElem? (i := 98) (by decide +kernel)), by decide +kernel⟩
theorem wB_682 : Cond.code yX5_wholeWorth cX5_wholeWorth 3 (some .int) ∈ dgB := List.mem_filter.mpr ⟨tbl_4 _ (List.mem_of_getElem? (i := 203) rfl), rfl⟩
theorem wB_683 : Cond.methodLink RX1 74 yX5_wholeWorth ∈ dgB := List.mem_filter.mpr ⟨tbl_5 _ (List.mem_of_getElem? (i := 143) (by decide +kernel)), by decide +kernel⟩
theorem wB_684 : Cond.instanceMethod yX5_wholeWorth ∈ dgB := List.mem_filter.mpr ⟨tbl_4 _ (List.mem_of_getElem? (i := 201) (by decide +kernel)), by decide +kernel⟩
theorem wB_685 : Cond.selects RX5 yX5_wholeWorth yX5_wholeWorth ∈ dgB := List.mem_filter.mpr ⟨tbl_4 _ (List.mem_of_getElem? (i := 202) (by decide +kernel)), by decide +kernel⟩
theorem wB_686 : Cond.fieldLink RX1 22 "DarkMine$Foresight" "shadeWorth" "I" ∈ dgB := List.mem_filter.mpr ⟨tbl_2 _ (List.mem_of_getElem? (i := 206) (by decide +kernel)), by decide +kernel⟩
theorem wB_687 : Cond.fieldLink RX1 18 "DarkMine$Foresight" "shadePlace" "I" ∈ dgB := List.mem_filter.mpr ⟨tbl_2 _ (List.mem_of_getElem? (i := 204) (by decide +kernel)), by decide +kernel⟩
theorem wB_688 : Cond.fieldLink RX1 48 "DarkMine$Ground" "shaftPlace" "I" ∈ dgB := List.mem_filter.mpr ⟨tbl_1 _ (List.mem_of_getElem? (i := 189) (by decide +kernel)), by decide +kernel⟩
theorem wB_689 : Cond.code yX1_tryShade cX1_tryShade 6 none ∈ dgB := List.mem_filter.mpr ⟨tbl_5 _ (List.mem_of_getElem? (i := 139) rfl), rfl⟩
theorem wB_690 : Cond.methodLink RX1 53 yX1_tryShade ∈ dgB := List.mem_filter.mpr ⟨tbl_5 _ (List.mem_of_getElem? (i := 136) (by decide +kernel)), by decide +kernel⟩
theorem wB_691 : Cond.instanceMethod yX1_tryShade ∈ dgB := List.mem_filter.mpr ⟨tbl_5 _ (List.mem_of_getElem? (i := 138) (by decide +kernel)), by decide +kernel⟩
theorem wB_692 : Cond.selects RX1 yX1_tryShade yX1_tryShade ∈ dgB := List.mem_filter.mpr ⟨List.mem_of_getElem? (i := 59) (by decide +kernel), by decide +kernel⟩
theorem wB_693 : Cond.initialized RX1 ∈ dgB := List.mem_filter.mpr ⟨tbl_1 _ (List.mem_of_getElem? (i := 11) (by decide +kernel)), by decide +kernel⟩
theorem wB_694 : Cond.code yX5_changeRows cX5_changeRows 5 none ∈ dgB := List.mem_filter.mpr ⟨tbl_5 _ (List.mem_of_getElem? (i := 159) rfl), rfl⟩
theorem wB_695 : Cond.methodLink RX1 85 yX5_changeRows ∈ dgB := List.mem_filter.mpr ⟨tbl_5 _ (List.mem_of_getElem? (i := 156) (by decide +kernel)), by decide +kernel⟩
theorem wB_696 : Cond.instanceMethod yX5_changeRows ∈ dgB := List.mem_filter.mpr ⟨tbl_5 _ (List.mem_of_getElem? (i := 157) (by decide +kernel)), by decide +kernel⟩
theorem wB_697 : Cond.selects RX5 yX5_changeRows yX5_changeRows ∈ dgB := List.mem_filter.mpr ⟨tbl_5 _ (List.mem_of_getElem? (i := 158) (by decide +kernel)), by decide +kernel⟩
theorem wB_698 : Cond.methodLink RX1 89 yX5_tubGrades ∈ dgB := List.mem_filter.mpr ⟨tbl_5 _ (List.mem_of_getElem? (i := 160) (by decide +kernel)), by decide +kernel⟩
theorem wB_699 : Cond.fieldLink RX1 25 "DarkMine$Foresight" "changeRow" "I" ∈ dgB := List.mem_filter.mpr ⟨tbl_2 _ (List.mem_of_getElem? (i := 208) (by decide +kernel)), by decide +kernel⟩
theorem wB_700 : Cond.fieldLink RX1 28 "DarkMine$Foresight" "changeOther" "I" ∈ dgB := List.mem_filter.mpr ⟨tbl_2 _ (List.mem_of_getElem? (i := 210) (by decide +kernel)), by decide +kernel⟩
theorem wB_701 : Cond.code yX1_gradesBehind cX1_gradesBehind 6 (some .int) ∈ dgB := List.mem_filter.mpr ⟨tbl_5 _ (List.mem_of_getElem? (i := 155) rfl), rfl⟩
theorem wB_702 : Cond.methodLink RX1 78 yX1_gradesBehind ∈ dgB := List.mem_filter.mpr ⟨tbl_5 _ (List.mem_of_getElem? (i := 152) (by decide +kernel)), by decide +kernel⟩
theorem wB_703 : Cond.instanceMethod yX1_gradesBehind ∈ dgB := List.mem_filter.mpr ⟨tbl_5 _ (List.mem_of_getElem? (i := 154) (by decide +kernel)), by decide +kernel⟩
theorem wB_704 : Cond.selects RX1 yX1_gradesBehind yX1_gradesBehind ∈ dgB := List.mem_filter.mpr ⟨List.mem_of_getElem? (i := 60) (by decide +kernel), by decide +kernel⟩
theorem wB_705 : Cond.fieldLink RX1 31 "DarkMine$Foresight" "changeGrades" "I" ∈ dgB := List.mem_filter.mpr ⟨tbl_2 _ (List.mem_of_getElem? (i := 212) (by decide +kernel)), by decide +kernel⟩
theorem wB_706 : Cond.fieldLink RX1 82 "DarkMine$Ground" "planRows" "I" ∈ dgB := List.mem_filter.mpr ⟨tbl_1 _ (List.mem_of_getElem? (i := 214) (by decide +kernel)), by decide +kernel⟩
theorem wB_707 : Cond.code yX10_closeCell cX10_closeCell 2 (some .boolean) ∈ dgB := List.mem_filter.mpr ⟨tbl_5 _ (List.mem_of_getElem? (i := 202) rfl), rfl⟩
theorem wB_708 : Cond.methodLink RX1 112 yX10_closeCell ∈ dgB := List.mem_filter.mpr ⟨tbl_5 _ (List.mem_of_getElem? (i := 199) (by decide +kernel)), by decide +kernel⟩
theorem wB_709 : Cond.instanceMethod yX10_closeCell ∈ dgB := List.mem_filter.mpr ⟨tbl_5 _ (List.mem_of_getElem? (i := 200) (by decide +kernel)), by decide +kernel⟩
theorem wB_710 : Cond.selects RX10 yX10_closeCell yX10_closeCell ∈ dgB := List.mem_filter.mpr ⟨tbl_5 _ (List.mem_of_getElem? (i := 201) (by decide +kernel)), by decide +kernel⟩
theorem wB_711 : Cond.methodLink RX1 108 yX5_isOpen ∈ dgB := List.mem_filter.mpr ⟨tbl_5 _ (List.mem_of_getElem? (i := 203) (by decide +kernel)), by decide +kernel⟩
theorem wB_712 : Cond.fieldLink RX1 92 "DarkMine$Ground" "columns" "I" ∈ dgB := List.mem_filter.mpr ⟨tbl_1 _ (List.mem_of_getElem? (i := 180) (by decide +kernel)), by decide +kernel⟩
theorem wB_713 : Cond.fieldLink RX1 95 "DarkMine$Ground" "rows" "I" ∈ dgB := List.mem_filter.mpr ⟨tbl_1 _ (List.mem_of_getElem? (i := 186) (by decide +kernel)), by decide +kernel⟩
theorem wB_714 : Cond.code yX1_openBehind cX1_openBehind 5 (some .int) ∈ dgB := List.mem_filter.mpr ⟨tbl_5 _ (List.mem_of_getElem? (i := 198) rfl), rfl⟩
theorem wB_715 : Cond.methodLink RX1 98 yX1_openBehind ∈ dgB := List.mem_filter.mpr ⟨tbl_5 _ (List.mem_of_getElem? (i := 195) (by decide +kernel)), by decide +kernel⟩
theorem wB_716 : Cond.instanceMethod yX1_openBehind ∈ dgB := List.mem_filter.mpr ⟨tbl_5 _ (List.mem_of_getElem? (i := 197) (by decide +kernel)), by decide +kernel⟩
theorem wB_717 : Cond.selects RX1 yX1_openBehind yX1_openBehind ∈ dgB := List.mem_filter.mpr ⟨List.mem_of_getElem? (i := 65) (by decide +kernel), by decide +kernel⟩
theorem wB_718 : Cond.fieldLink RX1 102 "DarkMine$Ground" "quake" "I" ∈ dgB := List.mem_filter.mpr ⟨tbl_1 _ (List.mem_of_getElem? (i := 200) (by decide +kernel)), by decide +kernel⟩
theorem wB_719 : Cond.code yX2_endOfPlaces cX2_endOfPlaces 1 (some .int) ∈ dgB := List.mem_filter.mpr ⟨tbl_5 _ (List.mem_of_getElem? (i := 207) rfl), rfl⟩
theorem wB_720 : Cond.methodLink RX1 105 yX2_endOfPlaces ∈ dgB := List.mem_filter.mpr ⟨tbl_5 _ (List.mem_of_getElem? (i := 204) (by decide +kernel)), by decide +kernel⟩
theorem wB_721 : Cond.instanceMethod yX2_endOfPlaces ∈ dgB := List.mem_filter.mpr ⟨tbl_5 _ (List.mem_of_getElem? (i := 205) (by decide +kernel)), by decide +kernel⟩
theorem wB_722 : Cond.selects RX2 yX2_endOfPlaces yX2_endOfPlaces ∈ dgB := List.mem_filter.mpr ⟨tbl_5 _ (List.mem_of_getElem? (i := 206) (by decide +kernel)), by decide +kernel⟩
noncomputable def F_f_forget (o : Nat) (S : dg_S) : dg_S := let S_2 : dg_S := dg_uF S 221 2 (.int (0 : Int32)); let S_4 : dg_S := dg_uF S_2 221 3 (.int (0 : Int32)); (S_4)
theorem F_f_forget_p0 {o : Nat} {S : dg_S} {S_4 : dg_S} {S_2 : dg_S} (h0 : S_2 = dg_uF S 221 2 (.int (0 : Int32))) (h1 : S_4 = dg_uF S_2 221 3 (.int (0 : Int32))) : F_f_forget o S = S_4 := by
  replace h0 := Eq.symm h0
  subst h0
  replace h1 := Eq.symm h1
  subst h1
  exact rfl
set_option maxHeartbeats 8000000 in
set_option maxRecDepth 100000 in
theorem c_f_forget (l : Launch) (g : Nat → ClassId) (D : va_G) (o : Nat) (S : dg_S) (I : CX o S) (sz : Nat) : Met l yX1_forget (bw yX1_forget cX1_forget 1 none) ({ frames := 1, cells := 0, slots := 0, locals := 32 } : Room) (dk_Pc g D (dg_w g shX o rfX S) sz [.ref (o + 221)]) (va_Qv (fun S' => CX o S' ∧ dg_sm shX [(43, 2), (43, 3)] [] S S' ∧ (∃ y9 : Int32, S'.1 221 2 = .int y9 ∧ ((y9).toInt = 0)) ∧ (∃ y9 : Int32, S'.1 221 3 = .int y9 ∧ ((y9).toInt = 0)) ∧ (S' = F_f_forget o S) ∧ True) (dg_B g D shX o rfX) (dg_A o shX.length sz)) 0 0 (dg_A o shX.length sz) := by
  refine dg_met (cc := cX1_forget) (maxL := 1) (ret := none) (dk_dq rfl) rfl (Nat.le_of_ble_eq_true rfl) ?_
  intro p e s m args below meth c A hAe harg hx hb hr hml hts hown hlocks hin hP K hS hA1 hA ST hsz ls hl
  rw [← hAe]
  have F : CallFix p m c cX1_forget 1 s args (bw yX1_forget cX1_forget 1 none) RX1 := ⟨hx, hb, hml, hown, hts⟩
  have hl : lv_has ls 1 [(0, .ref (o + 221))] := hl
  have M_0 : dg_sm shX [(43, 2), (43, 3)] [] S S := dg_sm.rf
  refine lv_aload_n hx hb dX1_forget_0 rfl (lv_at hl 0 rfl) ?_
  refine lv_iconst (v := 0) hx hb dX1_forget_1 (by decide +kernel) ?_
  have hz_1 : (0 : Int32).toInt = 0 := by decide +kernel
  refine dg_put (ci := 1) (v := .int 0) (ty := tyX1 2) (C := RX1) (T := TX1) (N := 9) hx hb hts (fun w h => bw_mem (wU_X1 w h)) tyX1 tyX1_ok nmX1 hown K hP hS hA1 sX_221 rfl 2 (dk_dq rfl) (hts _ (bw_mem wB_667)) (fun _ h9 => h9) rfl (by decide +kernel) rfl rfl dX1_forget_2 (fun S_2 e_2 H locs hP hS => ?_)
  have I_2 := dg_I.uFi (lo := (-2147483648)) (hi := 2147483647) I e_2 sX_221 (by decide +kernel) (show (-2147483648) ≤ ((0 : Int32)).toInt ∧ ((0 : Int32)).toInt ≤ 2147483647 from (by decide +kernel))
  have M_2 := dg_sm.uF M_0 e_2 sX_221 (dk_dq rfl)
  refine lv_aload_n hx hb dX1_forget_5 rfl (lv_at hl 0 rfl) ?_
  refine lv_iconst (v := 0) hx hb dX1_forget_6 (by decide +kernel) ?_
  have hz_3 : (0 : Int32).toInt = 0 := by decide +kernel
  refine dg_put (ci := 1) (v := .int 0) (ty := tyX1 3) (C := RX1) (T := TX1) (N := 9) hx hb hts (fun w h => bw_mem (wU_X1 w h)) tyX1 tyX1_ok nmX1 hown K hP hS hA1 sX_221 rfl 3 (dk_dq rfl) (hts _ (bw_mem wB_668)) (fun _ h9 => h9) rfl (by decide +kernel) rfl rfl dX1_forget_7 (fun S_4 e_4 H locs hP hS => ?_)
  have I_4 := dg_I.uFi (lo := (-2147483648)) (hi := 2147483647) I_2 e_4 sX_221 (by decide +kernel) (show (-2147483648) ≤ ((0 : Int32)).toInt ∧ ((0 : Int32)).toInt ≤ 2147483647 from (by decide +kernel))
  have M_4 := dg_sm.uF M_2 e_4 sX_221 (dk_dq rfl)
  have hz_5 : (0 : Int32).toInt = 0 := by decide +kernel
  have hz_6 : (0 : Int32).toInt = 0 := by decide +kernel
  refine W.widen (k := 0) (n := 0) (Nat.le_of_ble_eq_true rfl) (Nat.le_of_ble_eq_true rfl) ?_
  exact dg_vret hx hb hr hlocks hP hS ⟨I_4, M_4, ⟨0, ((dg_uF_ne e_4 (fun z => absurd z.2 (dk_dq rfl))).trans (dg_uF_at e_2)), (by omega)⟩, ⟨0, (dg_uF_at e_4), (by omega)⟩, (Eq.symm (F_f_forget_p0 e_2 e_4)), trivial⟩ dX1_forget_10
noncomputable def F_f_tryShade_J1 (o : Nat) (S_7 : dg_S) (a2 : Int32) : dg_S := let x_8 : Int32 := F_p_wholeWorth o S_7 222; let x_10 : Int32 := zI S_7 221 5; (if x_8 ≤ x_10 then (S_7) else let S_16 : dg_S := dg_uF S_7 221 4 (.int a2); let S_17 : dg_S := dg_uF S_16 221 5 (.int x_8); (S_17))
noncomputable def F_f_tryShade (o : Nat) (S : dg_S) (gr : Nat) (pt : Nat) (a1 : Int32) (a2 : Int32) : dg_S := let S_1 : dg_S := F_p_copy o S 222 pt; let S_3 : dg_S := dg_uf S_1 223 (upd (S_1.2.1 223) (a2 : Int32).toNatClampNeg (254 : Int32)); let x_5 : Int32 := zI S gr 3; let S_6 : dg_S := F_w_enter o S_3 gr 222 x_5; let S_7 : dg_S := F_w_pass o S_6 a1; (F_f_tryShade_J1 o S_7 a2)
theorem F_f_tryShade_p0 {o : Nat} {S_7 : dg_S} {a2 : Int32} {x_8 : Int32} {x_10 : Int32} (h0 : x_8 = F_p_wholeWorth o S_7 222) (h1 : x_10 = zI S_7 221 5) (h2 : x_8 ≤ x_10) : F_f_tryShade_J1 o S_7 a2 = S_7 := by
  replace h0 := Eq.symm h0
  subst h0
  replace h1 := Eq.symm h1
  subst h1
  exact (Eq.trans (if_pos h2) rfl)
theorem F_f_tryShade_p1 {o : Nat} {S_7 : dg_S} {a2 : Int32} {S_17 : dg_S} {x_8 : Int32} {x_10 : Int32} {S_16 : dg_S} (h0 : x_8 = F_p_wholeWorth o S_7 222) (h1 : x_10 = zI S_7 221 5) (h2 : ¬ (x_8 ≤ x_10)) (h3 : S_16 = dg_uF S_7 221 4 (.int a2)) (h4 : S_17 = dg_uF S_16 221 5 (.int x_8)) : F_f_tryShade_J1 o S_7 a2 = S_17 := by
  replace h0 := Eq.symm h0
  subst h0
  replace h1 := Eq.symm h1
  subst h1
  replace h3 := Eq.symm h3
  subst h3
  replace h4 := Eq.symm h4
  subst h4
  exact (Eq.trans (if_neg h2) rfl)
theorem F_f_tryShade_p2 {o : Nat} {S : dg_S} {gr : Nat} {pt : Nat} {a1 : Int32} {a2 : Int32} {S_7 : dg_S} {S_1 : dg_S} {S_3 : dg_S} {x_5 : Int32} {S_6 : dg_S} (h0 : S_1 = F_p_copy o S 222 pt) (h1 : S_3 = dg_uf S_1 223 (upd (S_1.2.1 223) (a2 : Int32).toNatClampNeg (254 : Int32))) (h2 : x_5 = zI S gr 3) (h3 : S_6 = F_w_enter o S_3 gr 222 x_5) (h4 : S_7 = F_w_pass o S_6 a1) : F_f_tryShade o S gr pt a1 a2 = F_f_tryShade_J1 o S_7 a2 := by
  replace h0 := Eq.symm h0
  subst h0
  replace h1 := Eq.symm h1
  subst h1
  replace h2 := Eq.symm h2
  subst h2
  replace h3 := Eq.symm h3
  subst h3
  replace h4 := Eq.symm h4
  subst h4
  exact rfl
set_option maxHeartbeats 8000000 in
set_option maxRecDepth 100000 in
theorem c_f_tryShade (l : Launch) (g : Nat → ClassId) (D : va_G) (o : Nat) (S : dg_S) (gr : Nat) (hk_gr : rX gr) (pt : Nat) (hk_pt : pX pt) (a1 : Int32) (a2 : Int32) (b_a2 : 0 ≤ (a2).toInt ∧ (a2).toInt ≤ 71) (h8 : 8 ≤ (a2).toInt ∧ (a2).toInt ≤ 63) (hf_pt : dg_fil S pt) (Z2 : Z2X S) (Z3 : Z3X o S) (I : CX o S) (sz : Nat) : Met l yX1_tryShade (bw yX1_tryShade cX1_tryShade 6 none) ({ frames := 6, cells := 0, slots := 0, locals := 149 } : Room) (dk_Pc g D (dg_w g shX o rfX S) sz [.ref (o + 221), .ref (o + gr), .ref (o + pt), .int a1, .int a2]) (va_Qv (fun S' => CX o S' ∧ dg_sm shX [(3, 0), (3, 1), (36, 4), (36, 6), (36, 7), (36, 8), (36, 9), (36, 10), (36, 11), (36, 12), (37, 0), (37, 1), (37, 2), (37, 3), (37, 4), (37, 5), (37, 7), (43, 4), (43, 5)] [4, 5, 6, 7, 8, 9, 38, 39, 40, 41, 42] S S' ∧ Z2X S' ∧ Z3X o S' ∧ dg_FG S S' ∧ (S' = F_f_tryShade o S gr pt a1 a2) ∧ True) (dg_B g D shX o rfX) (dg_A o shX.length sz)) 0 0 (dg_A o shX.length sz) := by
  refine dg_met (cc := cX1_tryShade) (maxL := 6) (ret := none) (dk_dq rfl) rfl (Nat.le_of_ble_eq_true rfl) ?_
  intro p e s m args below meth c A hAe harg hx hb hr hml hts hown hlocks hin hP K hS hA1 hA ST hsz ls hl
  rw [← hAe]
  have F : CallFix p m c cX1_tryShade 6 s args (bw yX1_tryShade cX1_tryShade 6 none) RX1 := ⟨hx, hb, hml, hown, hts⟩
  have hl : lv_has ls 6 [(0, .ref (o + 221)), (1, .ref (o + gr)), (2, .ref (o + pt)), (3, .int a1), (4, .int a2)] := hl
  have M_0 : dg_sm shX [(3, 0), (3, 1), (36, 4), (36, 6), (36, 7), (36, 8), (36, 9), (36, 10), (36, 11), (36, 12), (37, 0), (37, 1), (37, 2), (37, 3), (37, 4), (37, 5), (37, 7), (43, 4), (43, 5)] [4, 5, 6, 7, 8, 9, 38, 39, 40, 41, 42] S S := dg_sm.rf
  refine lv_aload_n hx hb dX1_tryShade_0 rfl (lv_at hl 0 rfl) ?_
  refine dg_get (C := RX1) (T := TX1) (N := 9) hx hb hts (fun w h => bw_mem (wU_X1 w h)) hown K hP sX_221 rfl 1 (dk_dq rfl) (hts _ (bw_mem wB_669)) (fun _ h9 => h9) (v := .ref (o + 222)) (show S.1 221 1 = .ref (o + 222) from dg_I.rel (d := 1) I sX_221 (by decide +kernel)) dX1_tryShade_1 ?_
  refine lv_aload_n hx hb dX1_tryShade_4 rfl (lv_at hl 2 rfl) ?_
  refine dg_callv hS hA1 hA (va_runV (As := [.ref (o + pt)]) (rest := []) F (c_p_copy l g D o S 222 (by unfold pX; decide : pX 222) pt hk_pt hf_pt I s.heap.size) (cwV 1 hts (bw_V wB_670 wB_662 wB_663 wB_493 wB_660) rfl rfl rfl (by decide +kernel) ⟨Nat.le_of_ble_eq_true rfl, Nat.le_of_ble_eq_true rfl⟩) (dg_preV (pX_0 222 (dk_dq rfl)) rfl K ST hP hS hA1 hA) rfl rfl hl.1 rfl (lv_room (Nat.le_of_ble_eq_true rfl)) dX1_tryShade_5 ⟨Nat.le_of_ble_eq_true rfl, Nat.le_of_ble_eq_true rfl⟩) (fun S_1 hw_1 H locs hP hS => ?_)
  obtain ⟨I_1, m_1, w_1_0, w_1_1, w_1_2, -⟩ := hw_1
  have M_1 := dg_sm.tr M_0 m_1 (dk_dq rfl) (dk_dq rfl)
  refine lv_aload_n hx hb dX1_tryShade_8 rfl (lv_at hl 0 rfl) ?_
  refine dg_get (C := RX1) (T := TX1) (N := 9) hx hb hts (fun w h => bw_mem (wU_X1 w h)) hown K hP sX_221 rfl 1 (dk_dq rfl) (hts _ (bw_mem wB_669)) (fun _ h9 => h9) (v := .ref (o + 222)) (show S_1.1 221 1 = .ref (o + 222) from dg_I.rel (d := 1) I_1 sX_221 (by decide +kernel)) dX1_tryShade_9 ?_
  refine dg_get (C := RX5) (T := TX5) (N := 8) hx hb hts (fun w h => bw_mem (wU_X5 w h)) hown K hP (pX_0 222 (dk_dq rfl)) rfl 2 (dk_dq rfl) (hts _ (bw_mem wB_671)) (fun _ h9 => h9) (v := .ref (o + 223)) (show S_1.1 222 2 = .ref (o + 223) from dg_I.rel (d := 1) I_1 (pX_0 222 (dk_dq rfl)) (by decide +kernel)) dX1_tryShade_12 ?_
  refine lv_iload hx hb dX1_tryShade_15 (lv_at hl 4 rfl) ?_
  refine lv_sipush (v := 254) hx hb dX1_tryShade_17 (by decide +kernel) ?_
  have hin_2 : vp_in a2 72 := (dk_inv2 (by omega))
  have hz_4 : (254 : Int32).toInt = 254 := by decide +kernel
  refine dg_iast hx hb K hP hS hA1 (pX_1 222 (dk_dq rfl)) hin_2 dX1_tryShade_20 (fun S_3 e_3 H locs hP hS => ?_)
  have I_3 := dg_I.ufc (lo := 0) (hi := 255) I_1 e_3 (pX_1 222 (dk_dq rfl)) (by decide +kernel) hin_2 (show dg_Pcel _ _ from by unfold dg_Pcel; omega) (by omega)
  have gs_3 := dg_FG.st e_3 (by omega)
  have M_3 := dg_sm.uf M_1 e_3 (pX_1 222 (dk_dq rfl)) (dk_dq rfl)
  refine lv_aload_n hx hb dX1_tryShade_21 rfl (lv_at hl 0 rfl) ?_
  refine dg_get (C := RX1) (T := TX1) (N := 9) hx hb hts (fun w h => bw_mem (wU_X1 w h)) hown K hP sX_221 rfl 0 (dk_dq rfl) (hts _ (bw_mem wB_672)) (fun _ h9 => h9) (v := .ref (o + 214)) (show S_3.1 221 0 = .ref (o + 214) from dg_I.abs (d := 214) I_3 sX_221 (by decide +kernel)) dX1_tryShade_22 ?_
  refine lv_aload_n hx hb dX1_tryShade_25 rfl (lv_at hl 1 rfl) ?_
  refine lv_aload_n hx hb dX1_tryShade_26 rfl (lv_at hl 0 rfl) ?_
  refine dg_get (C := RX1) (T := TX1) (N := 9) hx hb hts (fun w h => bw_mem (wU_X1 w h)) hown K hP sX_221 rfl 1 (dk_dq rfl) (hts _ (bw_mem wB_669)) (fun _ h9 => h9) (v := .ref (o + 222)) (show S_3.1 221 1 = .ref (o + 222) from dg_I.rel (d := 1) I_3 sX_221 (by decide +kernel)) dX1_tryShade_27 ?_
  refine lv_aload_n hx hb dX1_tryShade_30 rfl (lv_at hl 1 rfl) ?_
  obtain ⟨x_5, f_x_5, b_x_5⟩ := dg_I.int (i := gr) (k := 3) (lo := (-2147483648)) (hi := 2147483647) I (rX_0 gr hk_gr) (by decide +kernel)
  refine dg_get (C := RX2) (T := TX2) (N := 19) hx hb hts (fun w h => bw_mem (wU_X2 w h)) hown K hP (rX_0 gr hk_gr) rfl 3 (dk_dq rfl) (hts _ (bw_mem wB_673)) (fun _ h9 => h9) (v := .int x_5) (((dg_uf_F e_3 gr 3).trans (m_1.1 gr 3 _ (rX_0 gr hk_gr) (dk_dq rfl))).trans f_x_5) dX1_tryShade_31 ?_
  refine dg_callv hS hA1 hA (va_runV (As := [.ref (o + gr), .ref (o + 222), .int x_5]) (rest := []) F (c_w_enter l g D o S_3 gr hk_gr 222 (by unfold pX; decide : pX 222) x_5 (gs_3 222 (by unfold pX; decide : pX 222) w_1_0) I_3 H.size) (cwV 3 hts (bw_V wB_675 wB_676 wB_677 wB_594 wB_674) rfl rfl rfl (by decide +kernel) ⟨Nat.le_of_ble_eq_true rfl, Nat.le_of_ble_eq_true rfl⟩) (dg_preV sX_214 rfl K ST hP hS hA1 hA) rfl rfl hl.1 rfl (lv_room (Nat.le_of_ble_eq_true rfl)) dX1_tryShade_34 ⟨Nat.le_of_ble_eq_true rfl, Nat.le_of_ble_eq_true rfl⟩) (fun S_6 hw_6 H locs hP hS => ?_)
  obtain ⟨I_6, m_6, w_6_0, w_6_1, -⟩ := hw_6
  have M_6 := dg_sm.tr M_3 m_6 (dk_dq rfl) (dk_dq rfl)
  refine lv_aload_n hx hb dX1_tryShade_37 rfl (lv_at hl 0 rfl) ?_
  refine dg_get (C := RX1) (T := TX1) (N := 9) hx hb hts (fun w h => bw_mem (wU_X1 w h)) hown K hP sX_221 rfl 0 (dk_dq rfl) (hts _ (bw_mem wB_672)) (fun _ h9 => h9) (v := .ref (o + 214)) (show S_6.1 221 0 = .ref (o + 214) from dg_I.abs (d := 214) I_6 sX_221 (by decide +kernel)) dX1_tryShade_38 ?_
  refine lv_iload_n hx hb dX1_tryShade_41 rfl (lv_at hl 3 rfl) ?_
  refine dg_callv hS hA1 hA (va_runV (As := [.int a1]) (rest := []) F (c_w_pass l g D o S_6 a1 (Z2X.keep (Z2X.keep (Z2X.keep Z2 m_1 (dk_dq rfl) (dk_dq rfl)) (dg_sm.uf (WF := []) (WA := [4]) dg_sm.rf e_3 (pX_1 222 (dk_dq rfl)) (dk_dq rfl)) (dk_dq rfl) (dk_dq rfl)) m_6 (dk_dq rfl) (dk_dq rfl)) w_6_0 I_6 H.size) (cwV 1 hts (bw_V wB_679 wB_680 wB_681 wB_594 wB_678) rfl rfl rfl (by decide +kernel) ⟨Nat.le_of_ble_eq_true rfl, Nat.le_of_ble_eq_true rfl⟩) (dg_preV sX_214 rfl K ST hP hS hA1 hA) rfl rfl hl.1 rfl (lv_room (Nat.le_of_ble_eq_true rfl)) dX1_tryShade_42 ⟨Nat.le_of_ble_eq_true rfl, Nat.le_of_ble_eq_true rfl⟩) (fun S_7 hw_7 H locs hP hS => ?_)
  obtain ⟨I_7, m_7, w_7_0, w_7_1, w_7_2, w_7_3, -⟩ := hw_7
  have M_7 := dg_sm.tr M_6 m_7 (dk_dq rfl) (dk_dq rfl)
  have hF_1 : F_f_tryShade o S gr pt a1 a2 = F_f_tryShade_J1 o S_7 a2 := (F_f_tryShade_p2 w_1_2 e_3 (zI_eq f_x_5) w_6_1 w_7_3)
  as_aux_lemma =>
    refine lv_aload_n hx hb dX1_tryShade_45 rfl (lv_at hl 0 rfl) ?_
    refine dg_get (C := RX1) (T := TX1) (N := 9) hx hb hts (fun w h => bw_mem (wU_X1 w h)) hown K hP sX_221 rfl 1 (dk_dq rfl) (hts _ (bw_mem wB_669)) (fun _ h9 => h9) (v := .ref (o + 222)) (show S_7.1 221 1 = .ref (o + 222) from dg_I.rel (d := 1) I_7 sX_221 (by decide +kernel)) dX1_tryShade_46 ?_
    refine dg_calli hS hA1 hA (va_runV (As := []) (rest := []) F (c_p_wholeWorth l g D o S_7 222 (by unfold pX; decide : pX 222) I_7 H.size) (cwV 0 hts (bw_V wB_683 wB_684 wB_685 wB_493 wB_682) rfl rfl rfl (by decide +kernel) ⟨Nat.le_of_ble_eq_true rfl, Nat.le_of_ble_eq_true rfl⟩) (dg_preV (pX_0 222 (dk_dq rfl)) rfl K ST hP hS hA1 hA) rfl rfl hl.1 rfl (lv_room (Nat.le_of_ble_eq_true rfl)) dX1_tryShade_49 ⟨Nat.le_of_ble_eq_true rfl, Nat.le_of_ble_eq_true rfl⟩) (fun x_8 S_9 hw_9 H locs hP hS => ?_)
    rw [hw_9.1] at hP
    obtain ⟨hq_9, w_9_0, -⟩ := hw_9
    refine lv_istore (lv' := [(5, .int x_8), (0, .ref (o + 221)), (1, .ref (o + gr)), (2, .ref (o + pt)), (3, .int a1), (4, .int a2)]) hx hb dX1_tryShade_52 hl (dk_dq rfl) rfl (fun ls hl => ?_)
    refine lv_iload hx hb dX1_tryShade_54 (lv_at hl 0 rfl) ?_
    refine lv_aload_n hx hb dX1_tryShade_56 rfl (lv_at hl 1 rfl) ?_
    obtain ⟨x_10, f_x_10, b_x_10⟩ := dg_I.int (i := 221) (k := 5) (lo := (-2147483648)) (hi := 2147483647) I_7 sX_221 (by decide +kernel)
    refine dg_get (C := RX1) (T := TX1) (N := 9) hx hb hts (fun w h => bw_mem (wU_X1 w h)) hown K hP sX_221 rfl 5 (dk_dq rfl) (hts _ (bw_mem wB_686)) (fun _ h9 => h9) (v := .int x_10) f_x_10 dX1_tryShade_57 ?_
    refine lv_icmp_le (tgt := 75) hx hb dX1_tryShade_60 (dk_dq rfl) (fun c_11 => ?_) (fun c_11 => ?_)
    · have hf_11 := dk_full x_8
      have hf_12 := dk_full x_10
      have jc_11 := dk_lec (k := (x_10).toInt) rfl c_11
      refine W.widen (k := 0) (n := 0) (Nat.le_of_ble_eq_true rfl) (Nat.le_of_ble_eq_true rfl) ?_
      exact dg_vret hx hb hr hlocks hP hS ⟨I_7, M_7, w_7_0, w_7_1, (dg_FG.tr (dg_FG.tr (dg_FG.tr w_1_1 gs_3) (dg_FG.sm m_6 (dk_dq rfl))) w_7_2), (Eq.symm (Eq.trans hF_1 (F_f_tryShade_p0 w_9_0 (zI_eq f_x_10) c_11))), trivial⟩ dX1_tryShade_75
    · have hf_13 := dk_full x_8
      have hf_14 := dk_full x_10
      have jc_11 := dk_nlec (k := (x_10).toInt) rfl c_11
      refine lv_aload_n hx hb dX1_tryShade_63 rfl (lv_at hl 1 rfl) ?_
      refine lv_iload hx hb dX1_tryShade_64 (lv_at hl 5 rfl) ?_
      refine dg_put (ci := 1) (v := .int a2) (ty := tyX1 4) (C := RX1) (T := TX1) (N := 9) hx hb hts (fun w h => bw_mem (wU_X1 w h)) tyX1 tyX1_ok nmX1 hown K hP hS hA1 sX_221 rfl 4 (dk_dq rfl) (hts _ (bw_mem wB_687)) (fun _ h9 => h9) rfl (by decide +kernel) rfl rfl dX1_tryShade_66 (fun S_16 e_16 H locs hP hS => ?_)
      have I_16 := dg_I.uFi (lo := (-2147483648)) (hi := 2147483647) I_7 e_16 sX_221 (by decide +kernel) (show (-2147483648) ≤ (a2).toInt ∧ (a2).toInt ≤ 2147483647 from (dk_full _))
      have M_16 := dg_sm.uF M_7 e_16 sX_221 (dk_dq rfl)
      refine lv_aload_n hx hb dX1_tryShade_69 rfl (lv_at hl 1 rfl) ?_
      refine lv_iload hx hb dX1_tryShade_70 (lv_at hl 0 rfl) ?_
      refine dg_put (ci := 1) (v := .int x_8) (ty := tyX1 5) (C := RX1) (T := TX1) (N := 9) hx hb hts (fun w h => bw_mem (wU_X1 w h)) tyX1 tyX1_ok nmX1 hown K hP hS hA1 sX_221 rfl 5 (dk_dq rfl) (hts _ (bw_mem wB_686)) (fun _ h9 => h9) rfl (by decide +kernel) rfl rfl dX1_tryShade_72 (fun S_17 e_17 H locs hP hS => ?_)
      have I_17 := dg_I.uFi (lo := (-2147483648)) (hi := 2147483647) I_16 e_17 sX_221 (by decide +kernel) (show (-2147483648) ≤ (x_8).toInt ∧ (x_8).toInt ≤ 2147483647 from (dk_full _))
      have M_17 := dg_sm.uF M_16 e_17 sX_221 (dk_dq rfl)
      refine W.widen (k := 0) (n := 0) (Nat.le_of_ble_eq_true rfl) (Nat.le_of_ble_eq_true rfl) ?_
      exact dg_vret hx hb hr hlocks hP hS ⟨I_17, M_17, (Z2X.keep (Z2X.keep w_7_0 (dg_sm.uF (WF := [(43, 4)]) (WA := []) dg_sm.rf e_16 sX_221 (dk_dq rfl)) (dk_dq rfl) (dk_dq rfl)) (dg_sm.uF (WF := [(43, 5)]) (WA := []) dg_sm.rf e_17 sX_221 (dk_dq rfl)) (dk_dq rfl) (dk_dq rfl)), (Z3X.keep (Z3X.keep w_7_1 (dg_sm.uF (WF := [(43, 4)]) (WA := []) dg_sm.rf e_16 sX_221 (dk_dq rfl)) (dg_FG.uF e_16) (dk_dq rfl)) (dg_sm.uF (WF := [(43, 5)]) (WA := []) dg_sm.rf e_17 sX_221 (dk_dq rfl)) (dg_FG.uF e_17) (dk_dq rfl)), (dg_FG.tr (dg_FG.tr (dg_FG.tr (dg_FG.tr (dg_FG.tr w_1_1 gs_3) (dg_FG.sm m_6 (dk_dq rfl))) w_7_2) (dg_FG.uF e_16)) (dg_FG.uF e_17)), (Eq.symm (Eq.trans hF_1 (F_f_tryShade_p1 w_9_0 (zI_eq f_x_10) c_11 e_16 e_17))), trivial⟩ dX1_tryShade_75
noncomputable def F_f_seekShade_J2 (x_61 : Int32) (S_73 : dg_S) : (Int32 × dg_S) ⊕ (dg_S) := let x_75 : Int32 := x_61 + 1; (Sum.inl (x_75, S_73))
noncomputable def F_f_seekShade_B1 (pt : Nat) (S : dg_S) (gr : Nat) (o : Nat) (a1 : Int32) : (Int32 × dg_S) → (Int32 × dg_S) ⊕ (dg_S) := fun w9 => match w9 with | (x_61, S_62) => (if (72 : Int32) ≤ x_61 then (Sum.inr ((S_62))) else let x_66 : Int32 := S_62.2.1 (pt + 1) (x_61 : Int32).toNatClampNeg; (if x_66 = (255 : Int32) then let x_77 : Int32 := zI S gr 2; (if x_61 = x_77 then (F_f_seekShade_J2 x_61 S_62) else let S_79 : dg_S := F_f_tryShade o S_62 gr pt a1 x_61; (F_f_seekShade_J2 x_61 S_79)) else (F_f_seekShade_J2 x_61 S_62)))
noncomputable def F_f_seekShade (o : Nat) (S : dg_S) (gr : Nat) (pt : Nat) (a1 : Int32) : dg_S := let x_1 : Int32 := zI S 221 2; (if x_1 = a1 then (S) else let S_5 : dg_S := dg_uF S 221 2 (.int a1); let S_7 : dg_S := dg_uF S_5 221 4 (.int (-1 : Int32)); let S_9 : dg_S := dg_uF S_7 221 5 (.int (-1 : Int32)); (lp (F_f_seekShade_B1 pt S gr o a1) S ((73 - ((0 : Int32)).toInt).toNat + 1) ((0 : Int32), S_9)))
theorem F_f_seekShade_p0 {pt : Nat} {S : dg_S} {gr : Nat} {o : Nat} {a1 : Int32} {x_61 : Int32} {S_62 : dg_S} (h0 : (72 : Int32) ≤ x_61) : (F_f_seekShade_B1 pt S gr o a1) (x_61, S_62) = Sum.inr (S_62) := (Eq.trans (if_pos h0) rfl)
theorem F_f_seekShade_p1 {x_61 : Int32} {S_73 : dg_S} {x_75 : Int32} (h0 : x_75 = x_61 + 1) : F_f_seekShade_J2 x_61 S_73 = Sum.inl (x_75, S_73) := by
  replace h0 := Eq.symm h0
  subst h0
  exact rfl
theorem F_f_seekShade_p2 {pt : Nat} {S : dg_S} {gr : Nat} {o : Nat} {a1 : Int32} {x_61 : Int32} {S_62 : dg_S} {x_66 : Int32} (h0 : ¬ ((72 : Int32) ≤ x_61)) (h1 : x_66 = S_62.2.1 (pt + 1) (x_61 : Int32).toNatClampNeg) (h2 : ¬ (x_66 = (255 : Int32))) : (F_f_seekShade_B1 pt S gr o a1) (x_61, S_62) = F_f_seekShade_J2 x_61 S_62 := by
  replace h1 := Eq.symm h1
  subst h1
  exact (Eq.trans (if_neg h0) (Eq.trans (if_neg h2) rfl))
theorem F_f_seekShade_p3 {pt : Nat} {S : dg_S} {gr : Nat} {o : Nat} {a1 : Int32} {x_61 : Int32} {S_62 : dg_S} {x_66 : Int32} {x_77 : Int32} (h0 : ¬ ((72 : Int32) ≤ x_61)) (h1 : x_66 = S_62.2.1 (pt + 1) (x_61 : Int32).toNatClampNeg) (h2 : x_66 = (255 : Int32)) (h3 : x_77 = zI S gr 2) (h4 : x_61 = x_77) : (F_f_seekShade_B1 pt S gr o a1) (x_61, S_62) = F_f_seekShade_J2 x_61 S_62 := by
  replace h1 := Eq.symm h1
  subst h1
  replace h3 := Eq.symm h3
  subst h3
  exact (Eq.trans (if_neg h0) (Eq.trans (if_pos h2) (Eq.trans (if_pos h4) rfl)))
theorem F_f_seekShade_p4 {pt : Nat} {S : dg_S} {gr : Nat} {o : Nat} {a1 : Int32} {x_61 : Int32} {S_62 : dg_S} {S_79 : dg_S} {x_66 : Int32} {x_77 : Int32} (h0 : ¬ ((72 : Int32) ≤ x_61)) (h1 : x_66 = S_62.2.1 (pt + 1) (x_61 : Int32).toNatClampNeg) (h2 : x_66 = (255 : Int32)) (h3 : x_77 = zI S gr 2) (h4 : ¬ (x_61 = x_77)) (h5 : S_79 = F_f_tryShade o S_62 gr pt a1 x_61) : (F_f_seekShade_B1 pt S gr o a1) (x_61, S_62) = F_f_seekShade_J2 x_61 S_79 := by
  replace h1 := Eq.symm h1
  subst h1
  replace h3 := Eq.symm h3
  subst h3
  replace h5 := Eq.symm h5
  subst h5
  exact (Eq.trans (if_neg h0) (Eq.trans (if_pos h2) (Eq.trans (if_neg h4) rfl)))
theorem F_f_seekShade_p5 {o : Nat} {S : dg_S} {gr : Nat} {pt : Nat} {a1 : Int32} {S_9 : dg_S} {x_1 : Int32} {S_5 : dg_S} {S_7 : dg_S} (h0 : x_1 = zI S 221 2) (h1 : ¬ (x_1 = a1)) (h2 : S_5 = dg_uF S 221 2 (.int a1)) (h3 : S_7 = dg_uF S_5 221 4 (.int (-1 : Int32))) (h4 : S_9 = dg_uF S_7 221 5 (.int (-1 : Int32))) : F_f_seekShade o S gr pt a1 = lp (F_f_seekShade_B1 pt S gr o a1) S ((73 - ((0 : Int32)).toInt).toNat + 1) ((0 : Int32), S_9) := by
  replace h0 := Eq.symm h0
  subst h0
  replace h2 := Eq.symm h2
  subst h2
  replace h3 := Eq.symm h3
  subst h3
  replace h4 := Eq.symm h4
  subst h4
  exact (Eq.trans (if_neg h1) rfl)
theorem F_f_seekShade_p6 {o : Nat} {S : dg_S} {gr : Nat} {pt : Nat} {a1 : Int32} {x_1 : Int32} (h0 : x_1 = zI S 221 2) (h1 : x_1 = a1) : F_f_seekShade o S gr pt a1 = S := by
  replace h0 := Eq.symm h0
  subst h0
  exact (Eq.trans (if_pos h1) rfl)
set_option maxHeartbeats 8000000 in
set_option maxRecDepth 100000 in
theorem c_f_seekShade (l : Launch) (g : Nat → ClassId) (D : va_G) (o : Nat) (S : dg_S) (gr : Nat) (hk_gr : rX gr) (pt : Nat) (hk_pt : pX pt) (a1 : Int32) (hf_pt : dg_fil S pt) (Z2 : Z2X S) (Z3 : Z3X o S) (I : CX o S) (sz : Nat) : Met l yX1_seekShade (bw yX1_seekShade cX1_seekShade 5 none) ({ frames := 7, cells := 0, slots := 0, locals := 174 } : Room) (dk_Pc g D (dg_w g shX o rfX S) sz [.ref (o + 221), .ref (o + gr), .ref (o + pt), .int a1]) (va_Qv (fun S' => CX o S' ∧ dg_sm shX [(3, 0), (3, 1), (36, 4), (36, 6), (36, 7), (36, 8), (36, 9), (36, 10), (36, 11), (36, 12), (37, 0), (37, 1), (37, 2), (37, 3), (37, 4), (37, 5), (37, 7), (43, 2), (43, 4), (43, 5)] [4, 5, 6, 7, 8, 9, 38, 39, 40, 41, 42] S S' ∧ Z2X S' ∧ Z3X o S' ∧ dg_FG S S' ∧ (S' = F_f_seekShade o S gr pt a1) ∧ True) (dg_B g D shX o rfX) (dg_A o shX.length sz)) 0 0 (dg_A o shX.length sz) := by
  refine dg_met (cc := cX1_seekShade) (maxL := 5) (ret := none) (dk_dq rfl) rfl (Nat.le_of_ble_eq_true rfl) ?_
  intro p e s m args below meth c A hAe harg hx hb hr hml hts hown hlocks hin hP K hS hA1 hA ST hsz ls hl
  rw [← hAe]
  have F : CallFix p m c cX1_seekShade 5 s args (bw yX1_seekShade cX1_seekShade 5 none) RX1 := ⟨hx, hb, hml, hown, hts⟩
  have hl : lv_has ls 5 [(0, .ref (o + 221)), (1, .ref (o + gr)), (2, .ref (o + pt)), (3, .int a1)] := hl
  have M_0 : dg_sm shX [(3, 0), (3, 1), (36, 4), (36, 6), (36, 7), (36, 8), (36, 9), (36, 10), (36, 11), (36, 12), (37, 0), (37, 1), (37, 2), (37, 3), (37, 4), (37, 5), (37, 7), (43, 2), (43, 4), (43, 5)] [4, 5, 6, 7, 8, 9, 38, 39, 40, 41, 42] S S := dg_sm.rf
  refine lv_aload_n hx hb dX1_seekShade_0 rfl (lv_at hl 0 rfl) ?_
  obtain ⟨x_1, f_x_1, b_x_1⟩ := dg_I.int (i := 221) (k := 2) (lo := (-2147483648)) (hi := 2147483647) I sX_221 (by decide +kernel)
  refine dg_get (C := RX1) (T := TX1) (N := 9) hx hb hts (fun w h => bw_mem (wU_X1 w h)) hown K hP sX_221 rfl 2 (dk_dq rfl) (hts _ (bw_mem wB_667)) (fun _ h9 => h9) (v := .int x_1) f_x_1 dX1_seekShade_1 ?_
  refine lv_iload_n hx hb dX1_seekShade_4 rfl (lv_at hl 3 rfl) ?_
  refine lv_icmp_ne (tgt := 9) hx hb dX1_seekShade_5 (dk_dq rfl) (fun c_2 => ?_) (fun c_2 => ?_)
  · as_aux_lemma =>
      have hf_2 := dk_full x_1
      have hf_3 := dk_full a1
      have jc_2 := dk_neqc (k := (a1).toInt) rfl c_2
      refine lv_aload_n hx hb dX1_seekShade_9 rfl (lv_at hl 0 rfl) ?_
      refine lv_iload_n hx hb dX1_seekShade_10 rfl (lv_at hl 3 rfl) ?_
      refine dg_put (ci := 1) (v := .int a1) (ty := tyX1 2) (C := RX1) (T := TX1) (N := 9) hx hb hts (fun w h => bw_mem (wU_X1 w h)) tyX1 tyX1_ok nmX1 hown K hP hS hA1 sX_221 rfl 2 (dk_dq rfl) (hts _ (bw_mem wB_667)) (fun _ h9 => h9) rfl (by decide +kernel) rfl rfl dX1_seekShade_11 (fun S_5 e_5 H locs hP hS => ?_)
      have I_5 := dg_I.uFi (lo := (-2147483648)) (hi := 2147483647) I e_5 sX_221 (by decide +kernel) (show (-2147483648) ≤ (a1).toInt ∧ (a1).toInt ≤ 2147483647 from (dk_full _))
      have M_5 := dg_sm.uF M_0 e_5 sX_221 (dk_dq rfl)
      refine lv_aload_n hx hb dX1_seekShade_14 rfl (lv_at hl 0 rfl) ?_
      refine lv_iconst (v := (-1)) hx hb dX1_seekShade_15 (by decide +kernel) ?_
      have hz_6 : (-1 : Int32).toInt = (-1) := by decide +kernel
      refine dg_put (ci := 1) (v := .int (-1)) (ty := tyX1 4) (C := RX1) (T := TX1) (N := 9) hx hb hts (fun w h => bw_mem (wU_X1 w h)) tyX1 tyX1_ok nmX1 hown K hP hS hA1 sX_221 rfl 4 (dk_dq rfl) (hts _ (bw_mem wB_687)) (fun _ h9 => h9) rfl (by decide +kernel) rfl rfl dX1_seekShade_16 (fun S_7 e_7 H locs hP hS => ?_)
      have I_7 := dg_I.uFi (lo := (-2147483648)) (hi := 2147483647) I_5 e_7 sX_221 (by decide +kernel) (show (-2147483648) ≤ ((-1 : Int32)).toInt ∧ ((-1 : Int32)).toInt ≤ 2147483647 from (by decide +kernel))
      have M_7 := dg_sm.uF M_5 e_7 sX_221 (dk_dq rfl)
      refine lv_aload_n hx hb dX1_seekShade_19 rfl (lv_at hl 0 rfl) ?_
      refine lv_iconst (v := (-1)) hx hb dX1_seekShade_20 (by decide +kernel) ?_
      have hz_8 : (-1 : Int32).toInt = (-1) := by decide +kernel
      refine dg_put (ci := 1) (v := .int (-1)) (ty := tyX1 5) (C := RX1) (T := TX1) (N := 9) hx hb hts (fun w h => bw_mem (wU_X1 w h)) tyX1 tyX1_ok nmX1 hown K hP hS hA1 sX_221 rfl 5 (dk_dq rfl) (hts _ (bw_mem wB_686)) (fun _ h9 => h9) rfl (by decide +kernel) rfl rfl dX1_seekShade_21 (fun S_9 e_9 H locs hP hS => ?_)
      have I_9 := dg_I.uFi (lo := (-2147483648)) (hi := 2147483647) I_7 e_9 sX_221 (by decide +kernel) (show (-2147483648) ≤ ((-1 : Int32)).toInt ∧ ((-1 : Int32)).toInt ≤ 2147483647 from (by decide +kernel))
      have M_9 := dg_sm.uF M_7 e_9 sX_221 (dk_dq rfl)
      refine lv_iconst (v := 0) hx hb dX1_seekShade_24 (by decide +kernel) ?_
      refine lv_istore (lv' := [(4, .int 0), (0, .ref (o + 221)), (1, .ref (o + gr)), (2, .ref (o + pt)), (3, .int a1)]) hx hb dX1_seekShade_25 hl (dk_dq rfl) rfl (fun ls hl => ?_)
      have L_63 : ∀ (n : Nat) (x_61 : Int32), (0 ≤ (x_61).toInt ∧ (x_61).toInt ≤ 72) → ((73 - (x_61).toInt).toNat < n) → ∀ S_62 : dg_S, CX o S_62 → dg_sm shX [(3, 0), (3, 1), (36, 4), (36, 6), (36, 7), (36, 8), (36, 9), (36, 10), (36, 11), (36, 12), (37, 0), (37, 1), (37, 2), (37, 3), (37, 4), (37, 5), (37, 7), (43, 2), (43, 4), (43, 5)] [4, 5, 6, 7, 8, 9, 38, 39, 40, 41, 42] S S_62 → dg_FG S S_62 → S_62.1 221 2 = .int a1 → Z2X S_62 → Z3X o S_62 → dg_fil S_62 pt → (F_f_seekShade o S gr pt a1 = lp (F_f_seekShade_B1 pt S gr o a1) S n (x_61, S_62)) → ∀ (H : Heap) (locs : List Loc), va_P D vwCl (dg_w g shX o rfX S_62) H → va_S A s.heap H locs → ∀ ls : Array Slot, lv_has ls 5 [(4, .int x_61), (0, .ref (o + 221)), (1, .ref (o + gr)), (2, .ref (o + pt)), (3, .int a1)] → W p l e ({ frames := 7, cells := 0, slots := 0, locals := 174 } : Room) s m args below meth c H locs 0 0 (MQ below (va_Qv (fun S' => CX o S' ∧ dg_sm shX [(3, 0), (3, 1), (36, 4), (36, 6), (36, 7), (36, 8), (36, 9), (36, 10), (36, 11), (36, 12), (37, 0), (37, 1), (37, 2), (37, 3), (37, 4), (37, 5), (37, 7), (43, 2), (43, 4), (43, 5)] [4, 5, 6, 7, 8, 9, 38, 39, 40, 41, 42] S S' ∧ Z2X S' ∧ Z3X o S' ∧ dg_FG S S' ∧ (S' = F_f_seekShade o S gr pt a1) ∧ True) (dg_B g D shX o rfX) A) args s 0 0 A) (F0 m 27 ls []) := by
        as_aux_lemma =>
          intro n
          induction n with
          | zero =>
            intro x_61 b_x_61 hmu S_62 I_62 M_62 G_62 ff_62_2_221 Z2_62 Z3_62 fl_62_0 hF_1 H locs hP hS ls hl
            omega
          | succ n ih =>
            as_aux_lemma =>
              intro x_61 b_x_61 hmu S_62 I_62 M_62 G_62 ff_62_2_221 Z2_62 Z3_62 fl_62_0 hF_1 H locs hP hS ls hl
              refine lv_iload hx hb dX1_seekShade_27 (lv_at hl 0 rfl) ?_
              refine lv_bipush (v := 72) hx hb dX1_seekShade_29 (by decide +kernel) ?_
              refine lv_icmp_ge (tgt := 71) hx hb dX1_seekShade_31 (dk_dq rfl) (fun c_64 => ?_) (fun c_64 => ?_)
              · have jc_64 := dk_gec (k := 72) (by decide +kernel) c_64
                refine W.widen (k := 0) (n := 0) (Nat.le_of_ble_eq_true rfl) (Nat.le_of_ble_eq_true rfl) ?_
                exact dg_vret hx hb hr hlocks hP hS ⟨I_62, M_62, Z2_62, Z3_62, G_62, (Eq.symm (lp_r hF_1 (F_f_seekShade_p0 c_64))), trivial⟩ dX1_seekShade_71
              · as_aux_lemma =>
                  have jc_64 := dk_ngec (k := 72) (by decide +kernel) c_64
                  refine lv_aload_n hx hb dX1_seekShade_34 rfl (lv_at hl 3 rfl) ?_
                  refine dg_get (C := RX5) (T := TX5) (N := 8) hx hb hts (fun w h => bw_mem (wU_X5 w h)) hown K hP (pX_0 pt hk_pt) rfl 2 (dk_dq rfl) (hts _ (bw_mem wB_671)) (fun _ h9 => h9) (v := .ref (o + (pt + 1))) (show S_62.1 pt 2 = .ref (o + (pt + 1)) from dg_I.rel (d := 1) I_62 (pX_0 pt hk_pt) (by decide +kernel)) dX1_seekShade_35 ?_
                  refine lv_iload hx hb dX1_seekShade_38 (lv_at hl 0 rfl) ?_
                  have hin_65 : vp_in x_61 72 := (dk_inv2 (by omega))
                  refine dg_iald hx hb K hP (pX_1 pt hk_pt) hin_65 dX1_seekShade_40 (fun x_66 ex_66 => ?_)
                  have b_x_66 := dg_cel_at (dg_I.cel (lo := 0) (hi := 255) I_62 (pX_1 pt hk_pt) (by decide +kernel) fl_62_0) hin_65 ex_66
                  refine lv_sipush (v := 255) hx hb dX1_seekShade_41 (by decide +kernel) ?_
                  have J_74 : ∀ S_73 : dg_S, CX o S_73 → dg_sm shX [(3, 0), (3, 1), (36, 4), (36, 6), (36, 7), (36, 8), (36, 9), (36, 10), (36, 11), (36, 12), (37, 0), (37, 1), (37, 2), (37, 3), (37, 4), (37, 5), (37, 7), (43, 2), (43, 4), (43, 5)] [4, 5, 6, 7, 8, 9, 38, 39, 40, 41, 42] S S_73 → dg_FG S S_73 → S_73.1 221 2 = .int a1 → Z2X S_73 → Z3X o S_73 → dg_fil S_73 pt → ((F_f_seekShade_B1 pt S gr o a1) (x_61, S_62) = F_f_seekShade_J2 x_61 S_73) → ∀ (H : Heap) (locs : List Loc), va_P D vwCl (dg_w g shX o rfX S_73) H → va_S A s.heap H locs → ∀ ls : Array Slot, lv_has ls 5 [(4, .int x_61), (0, .ref (o + 221)), (1, .ref (o + gr)), (2, .ref (o + pt)), (3, .int a1)] → W p l e ({ frames := 7, cells := 0, slots := 0, locals := 174 } : Room) s m args below meth c H locs 0 0 (MQ below (va_Qv (fun S' => CX o S' ∧ dg_sm shX [(3, 0), (3, 1), (36, 4), (36, 6), (36, 7), (36, 8), (36, 9), (36, 10), (36, 11), (36, 12), (37, 0), (37, 1), (37, 2), (37, 3), (37, 4), (37, 5), (37, 7), (43, 2), (43, 4), (43, 5)] [4, 5, 6, 7, 8, 9, 38, 39, 40, 41, 42] S S' ∧ Z2X S' ∧ Z3X o S' ∧ dg_FG S S' ∧ (S' = F_f_seekShade o S gr pt a1) ∧ True) (dg_B g D shX o rfX) A) args s 0 0 A) (F0 m 65 ls []) := by
                    intro S_73 I_73 M_73 G_73 ff_73_2_221 Z2_73 Z3_73 fl_73_0 hF_2 H locs hP hS ls hl
                    obtain ⟨x_75, ex_75⟩ : ∃ z, z = x_61 + 1 := ⟨_, rfl⟩
                    have jx_75 : (x_75).toInt = (x_61).toInt + 1 := by rw [ex_75]; exact dk_addT2 rfl (by decide +kernel) (by omega)
                    refine lv_iinc (v := x_75) (lv' := [(4, .int x_75), (0, .ref (o + 221)), (1, .ref (o + gr)), (2, .ref (o + pt)), (3, .int a1)]) hx hb dX1_seekShade_65 hl (k := 0) rfl (by rw [ex_75]; rfl) (dk_dq rfl) rfl (fun ls hl => ?_)
                    refine lv_goto (tgt := 27) hx hb dX1_seekShade_68 (dk_dq rfl) ?_
                    exact ih x_75 (by omega) (by first | exact mu_lt hmu (by omega) (by omega) | omega) S_73 I_73 M_73 G_73 ff_73_2_221 Z2_73 Z3_73 fl_73_0 (lp_l hF_1 (Eq.trans hF_2 (F_f_seekShade_p1 ex_75))) _ _ hP hS _ (lv_sub hl [0, 1, 2, 3, 4] rfl)
                  refine lv_icmp_ne (tgt := 65) hx hb dX1_seekShade_44 (dk_dq rfl) (fun c_76 => ?_) (fun c_76 => ?_)
                  · have jc_76 := dk_neqc (k := 255) (by decide +kernel) c_76
                    exact J_74   S_62 I_62 M_62 G_62 ff_62_2_221 Z2_62 Z3_62 fl_62_0 (F_f_seekShade_p2 c_64 (Eq.symm ex_66.symm) c_76) _ _ hP hS _ (lv_sub hl [0, 1, 2, 3, 4] rfl)
                  · as_aux_lemma =>
                      have jc_76 := dk_eqc (k := 255) (by decide +kernel) c_76
                      refine lv_iload hx hb dX1_seekShade_47 (lv_at hl 0 rfl) ?_
                      refine lv_aload_n hx hb dX1_seekShade_49 rfl (lv_at hl 2 rfl) ?_
                      obtain ⟨x_77, f_x_77, b_x_77⟩ := dg_I.int (i := gr) (k := 2) (lo := (-1)) (hi := 63) I (rX_0 gr hk_gr) (by decide +kernel)
                      refine dg_get (C := RX2) (T := TX2) (N := 19) hx hb hts (fun w h => bw_mem (wU_X2 w h)) hown K hP (rX_0 gr hk_gr) rfl 2 (dk_dq rfl) (hts _ (bw_mem wB_688)) (fun _ h9 => h9) (v := .int x_77) ((M_62.1 gr 2 _ (rX_0 gr hk_gr) (dk_dq rfl)).trans f_x_77) dX1_seekShade_50 ?_
                      refine lv_icmp_eq (tgt := 65) hx hb dX1_seekShade_53 (dk_dq rfl) (fun c_78 => ?_) (fun c_78 => ?_)
                      · have jc_78 := dk_eqc (k := (x_77).toInt) rfl c_78
                        exact J_74   S_62 I_62 M_62 G_62 ff_62_2_221 Z2_62 Z3_62 fl_62_0 (F_f_seekShade_p3 c_64 (Eq.symm ex_66.symm) c_76 (zI_eq f_x_77) c_78) _ _ hP hS _ (lv_sub hl [0, 1, 2, 3, 4] rfl)
                      · have jc_78 := dk_neqc (k := (x_77).toInt) rfl c_78
                        refine lv_aload_n hx hb dX1_seekShade_56 rfl (lv_at hl 1 rfl) ?_
                        refine lv_aload_n hx hb dX1_seekShade_57 rfl (lv_at hl 2 rfl) ?_
                        refine lv_aload_n hx hb dX1_seekShade_58 rfl (lv_at hl 3 rfl) ?_
                        refine lv_iload_n hx hb dX1_seekShade_59 rfl (lv_at hl 4 rfl) ?_
                        refine lv_iload hx hb dX1_seekShade_60 (lv_at hl 0 rfl) ?_
                        refine dg_callv hS hA1 hA (va_runV (As := [.ref (o + gr), .ref (o + pt), .int a1, .int x_61]) (rest := []) F (c_f_tryShade l g D o S_62 gr hk_gr pt hk_pt a1 x_61 (by omega) (by omega) fl_62_0 Z2_62 Z3_62 I_62 H.size) (cwV 4 hts (bw_V wB_690 wB_691 wB_692 wB_693 wB_689) rfl rfl rfl (by decide +kernel) ⟨Nat.le_of_ble_eq_true rfl, Nat.le_of_ble_eq_true rfl⟩) (dg_preV sX_221 rfl K ST hP hS hA1 hA) rfl rfl hl.1 rfl (lv_room (Nat.le_of_ble_eq_true rfl)) dX1_seekShade_62 ⟨Nat.le_of_ble_eq_true rfl, Nat.le_of_ble_eq_true rfl⟩) (fun S_79 hw_79 H locs hP hS => ?_)
                        obtain ⟨I_79, m_79, w_79_0, w_79_1, w_79_2, w_79_3, -⟩ := hw_79
                        have M_79 := dg_sm.tr M_62 m_79 (dk_dq rfl) (dk_dq rfl)
                        exact J_74   S_79 I_79 M_79 (dg_FG.tr G_62 w_79_2) ((m_79.1 221 2 _ sX_221 (dk_dq rfl)).trans ff_62_2_221) w_79_0 w_79_1 (w_79_2 pt hk_pt fl_62_0) (F_f_seekShade_p4 c_64 (Eq.symm ex_66.symm) c_76 (zI_eq f_x_77) c_78 w_79_3) _ _ hP hS _ (lv_sub hl [0, 1, 2, 3, 4] rfl)
      have hz_80 : (0 : Int32).toInt = 0 := by decide +kernel
      have hz_81 : (0 : Int32).toInt = 0 := by decide +kernel
      exact L_63 ((73 - ((0 : Int32)).toInt).toNat + 1) 0 (by decide +kernel) (by first | exact mu_lt hmu (by omega) (by omega) | omega) S_9 I_9 M_9 (dg_FG.tr (dg_FG.tr (dg_FG.uF e_5) (dg_FG.uF e_7)) (dg_FG.uF e_9)) (((dg_uF_ne e_9 (fun z => absurd z.2 (dk_dq rfl))).trans (dg_uF_ne e_7 (fun z => absurd z.2 (dk_dq rfl)))).trans (dg_uF_at e_5)) (Z2X.keep (Z2X.keep (Z2X.keep Z2 (dg_sm.uF (WF := [(43, 2)]) (WA := []) dg_sm.rf e_5 sX_221 (dk_dq rfl)) (dk_dq rfl) (dk_dq rfl)) (dg_sm.uF (WF := [(43, 4)]) (WA := []) dg_sm.rf e_7 sX_221 (dk_dq rfl)) (dk_dq rfl) (dk_dq rfl)) (dg_sm.uF (WF := [(43, 5)]) (WA := []) dg_sm.rf e_9 sX_221 (dk_dq rfl)) (dk_dq rfl) (dk_dq rfl)) (Z3X.keep (Z3X.keep (Z3X.keep Z3 (dg_sm.uF (WF := [(43, 2)]) (WA := []) dg_sm.rf e_5 sX_221 (dk_dq rfl)) (dg_FG.uF e_5) (dk_dq rfl)) (dg_sm.uF (WF := [(43, 4)]) (WA := []) dg_sm.rf e_7 sX_221 (dk_dq rfl)) (dg_FG.uF e_7) (dk_dq rfl)) (dg_sm.uF (WF := [(43, 5)]) (WA := []) dg_sm.rf e_9 sX_221 (dk_dq rfl)) (dg_FG.uF e_9) (dk_dq rfl)) ((dg_FG.tr (dg_FG.tr (dg_FG.uF e_5) (dg_FG.uF e_7)) (dg_FG.uF e_9)) pt hk_pt hf_pt) (F_f_seekShade_p5 (zI_eq f_x_1) c_2 e_5 e_7 e_9) _ _ hP hS _ (lv_sub hl [0, 1, 2, 3, 4] rfl)
  · have hf_81 := dk_full x_1
    have hf_82 := dk_full a1
    have jc_2 := dk_eqc (k := (a1).toInt) rfl c_2
    refine W.widen (k := 0) (n := 0) (Nat.le_of_ble_eq_true rfl) (Nat.le_of_ble_eq_true rfl) ?_
    exact dg_vret hx hb hr hlocks hP hS ⟨I, M_0, Z2, Z3, dg_FG.rf, (Eq.symm (F_f_seekShade_p6 (zI_eq f_x_1) c_2)), trivial⟩ dX1_seekShade_8
noncomputable def F_f_gradesBehind_J1 (o : Nat) (S_5 : dg_S) : dg_S × Int32 := let x_6 : Int32 := F_p_tubGrades o S_5 222; (S_5, x_6)
noncomputable def F_f_gradesBehind (o : Nat) (S : dg_S) (gr : Nat) (pt : Nat) (a1 : Int32) (a2 : Int32) (a3 : Int32) : dg_S × Int32 := let S_1 : dg_S := F_p_copy o S 222 pt; let S_2 : dg_S := F_p_changeRows o S_1 222 a2 a3; let x_3 : Int32 := zI S gr 3; let S_4 : dg_S := F_w_enter o S_2 gr 222 x_3; let S_5 : dg_S := F_w_pass o S_4 a1; (F_f_gradesBehind_J1 o S_5)
theorem F_f_gradesBehind_p0 {o : Nat} {S_5 : dg_S} {x_6 : Int32} (h0 : x_6 = F_p_tubGrades o S_5 222) : F_f_gradesBehind_J1 o S_5 = (S_5, x_6) := by
  replace h0 := Eq.symm h0
  subst h0
  exact rfl
theorem F_f_gradesBehind_p1 {o : Nat} {S : dg_S} {gr : Nat} {pt : Nat} {a1 : Int32} {a2 : Int32} {a3 : Int32} {S_5 : dg_S} {S_1 : dg_S} {S_2 : dg_S} {x_3 : Int32} {S_4 : dg_S} (h0 : S_1 = F_p_copy o S 222 pt) (h1 : S_2 = F_p_changeRows o S_1 222 a2 a3) (h2 : x_3 = zI S gr 3) (h3 : S_4 = F_w_enter o S_2 gr 222 x_3) (h4 : S_5 = F_w_pass o S_4 a1) : F_f_gradesBehind o S gr pt a1 a2 a3 = F_f_gradesBehind_J1 o S_5 := by
  replace h0 := Eq.symm h0
  subst h0
  replace h1 := Eq.symm h1
  subst h1
  replace h2 := Eq.symm h2
  subst h2
  replace h3 := Eq.symm h3
  subst h3
  replace h4 := Eq.symm h4
  subst h4
  exact rfl
set_option maxHeartbeats 8000000 in
set_option maxRecDepth 100000 in
theorem c_f_gradesBehind (l : Launch) (g : Nat → ClassId) (D : va_G) (o : Nat) (S : dg_S) (gr : Nat) (hk_gr : rX gr) (pt : Nat) (hk_pt : pX pt) (a1 : Int32) (a2 : Int32) (b_a2 : 0 ≤ (a2).toInt ∧ (a2).toInt ≤ 15) (a3 : Int32) (b_a3 : 0 ≤ (a3).toInt ∧ (a3).toInt ≤ 15) (hf_pt : dg_fil S pt) (Z2 : Z2X S) (Z3 : Z3X o S) (I : CX o S) (sz : Nat) : Met l yX1_gradesBehind (bw yX1_gradesBehind cX1_gradesBehind 6 (some .int)) ({ frames := 6, cells := 0, slots := 0, locals := 149 } : Room) (dk_Pc g D (dg_w g shX o rfX S) sz [.ref (o + 221), .ref (o + gr), .ref (o + pt), .int a1, .int a2, .int a3]) (va_Qi (fun (r : Int32) S' => CX o S' ∧ dg_sm shX [(3, 0), (3, 1), (36, 4), (36, 6), (36, 7), (36, 8), (36, 9), (36, 10), (36, 11), (36, 12), (37, 0), (37, 1), (37, 2), (37, 3), (37, 4), (37, 5), (37, 7)] [4, 5, 6, 7, 8, 9, 38, 39, 40, 41, 42] S S' ∧ Z2X S' ∧ Z3X o S' ∧ dg_FG S S' ∧ (S' = (F_f_gradesBehind o S gr pt a1 a2 a3).1 ∧ r = (F_f_gradesBehind o S gr pt a1 a2 a3).2) ∧ True) (dg_B g D shX o rfX) (dg_A o shX.length sz)) 0 0 (dg_A o shX.length sz) := by
  refine dg_met (cc := cX1_gradesBehind) (maxL := 6) (ret := (some .int)) (dk_dq rfl) rfl (Nat.le_of_ble_eq_true rfl) ?_
  intro p e s m args below meth c A hAe harg hx hb hr hml hts hown hlocks hin hP K hS hA1 hA ST hsz ls hl
  rw [← hAe]
  have F : CallFix p m c cX1_gradesBehind 6 s args (bw yX1_gradesBehind cX1_gradesBehind 6 (some .int)) RX1 := ⟨hx, hb, hml, hown, hts⟩
  have hl : lv_has ls 6 [(0, .ref (o + 221)), (1, .ref (o + gr)), (2, .ref (o + pt)), (3, .int a1), (4, .int a2), (5, .int a3)] := hl
  have M_0 : dg_sm shX [(3, 0), (3, 1), (36, 4), (36, 6), (36, 7), (36, 8), (36, 9), (36, 10), (36, 11), (36, 12), (37, 0), (37, 1), (37, 2), (37, 3), (37, 4), (37, 5), (37, 7)] [4, 5, 6, 7, 8, 9, 38, 39, 40, 41, 42] S S := dg_sm.rf
  refine lv_aload_n hx hb dX1_gradesBehind_0 rfl (lv_at hl 0 rfl) ?_
  refine dg_get (C := RX1) (T := TX1) (N := 9) hx hb hts (fun w h => bw_mem (wU_X1 w h)) hown K hP sX_221 rfl 1 (dk_dq rfl) (hts _ (bw_mem wB_669)) (fun _ h9 => h9) (v := .ref (o + 222)) (show S.1 221 1 = .ref (o + 222) from dg_I.rel (d := 1) I sX_221 (by decide +kernel)) dX1_gradesBehind_1 ?_
  refine lv_aload_n hx hb dX1_gradesBehind_4 rfl (lv_at hl 2 rfl) ?_
  refine dg_callv hS hA1 hA (va_runV (As := [.ref (o + pt)]) (rest := []) F (c_p_copy l g D o S 222 (by unfold pX; decide : pX 222) pt hk_pt hf_pt I s.heap.size) (cwV 1 hts (bw_V wB_670 wB_662 wB_663 wB_493 wB_660) rfl rfl rfl (by decide +kernel) ⟨Nat.le_of_ble_eq_true rfl, Nat.le_of_ble_eq_true rfl⟩) (dg_preV (pX_0 222 (dk_dq rfl)) rfl K ST hP hS hA1 hA) rfl rfl hl.1 rfl (lv_room (Nat.le_of_ble_eq_true rfl)) dX1_gradesBehind_5 ⟨Nat.le_of_ble_eq_true rfl, Nat.le_of_ble_eq_true rfl⟩) (fun S_1 hw_1 H locs hP hS => ?_)
  obtain ⟨I_1, m_1, w_1_0, w_1_1, w_1_2, -⟩ := hw_1
  have M_1 := dg_sm.tr M_0 m_1 (dk_dq rfl) (dk_dq rfl)
  refine lv_aload_n hx hb dX1_gradesBehind_8 rfl (lv_at hl 0 rfl) ?_
  refine dg_get (C := RX1) (T := TX1) (N := 9) hx hb hts (fun w h => bw_mem (wU_X1 w h)) hown K hP sX_221 rfl 1 (dk_dq rfl) (hts _ (bw_mem wB_669)) (fun _ h9 => h9) (v := .ref (o + 222)) (show S_1.1 221 1 = .ref (o + 222) from dg_I.rel (d := 1) I_1 sX_221 (by decide +kernel)) dX1_gradesBehind_9 ?_
  refine lv_iload hx hb dX1_gradesBehind_12 (lv_at hl 4 rfl) ?_
  refine lv_iload hx hb dX1_gradesBehind_14 (lv_at hl 5 rfl) ?_
  refine dg_callv hS hA1 hA (va_runV (As := [.int a2, .int a3]) (rest := []) F (c_p_changeRows l g D o S_1 222 (by unfold pX; decide : pX 222) a2 (by omega) a3 (by omega) I_1 H.size) (cwV 2 hts (bw_V wB_695 wB_696 wB_697 wB_493 wB_694) rfl rfl rfl (by decide +kernel) ⟨Nat.le_of_ble_eq_true rfl, Nat.le_of_ble_eq_true rfl⟩) (dg_preV (pX_0 222 (dk_dq rfl)) rfl K ST hP hS hA1 hA) rfl rfl hl.1 rfl (lv_room (Nat.le_of_ble_eq_true rfl)) dX1_gradesBehind_16 ⟨Nat.le_of_ble_eq_true rfl, Nat.le_of_ble_eq_true rfl⟩) (fun S_2 hw_2 H locs hP hS => ?_)
  obtain ⟨I_2, m_2, w_2_0, -⟩ := hw_2
  have M_2 := dg_sm.tr M_1 m_2 (dk_dq rfl) (dk_dq rfl)
  refine lv_aload_n hx hb dX1_gradesBehind_19 rfl (lv_at hl 0 rfl) ?_
  refine dg_get (C := RX1) (T := TX1) (N := 9) hx hb hts (fun w h => bw_mem (wU_X1 w h)) hown K hP sX_221 rfl 0 (dk_dq rfl) (hts _ (bw_mem wB_672)) (fun _ h9 => h9) (v := .ref (o + 214)) (show S_2.1 221 0 = .ref (o + 214) from dg_I.abs (d := 214) I_2 sX_221 (by decide +kernel)) dX1_gradesBehind_20 ?_
  refine lv_aload_n hx hb dX1_gradesBehind_23 rfl (lv_at hl 1 rfl) ?_
  refine lv_aload_n hx hb dX1_gradesBehind_24 rfl (lv_at hl 0 rfl) ?_
  refine dg_get (C := RX1) (T := TX1) (N := 9) hx hb hts (fun w h => bw_mem (wU_X1 w h)) hown K hP sX_221 rfl 1 (dk_dq rfl) (hts _ (bw_mem wB_669)) (fun _ h9 => h9) (v := .ref (o + 222)) (show S_2.1 221 1 = .ref (o + 222) from dg_I.rel (d := 1) I_2 sX_221 (by decide +kernel)) dX1_gradesBehind_25 ?_
  refine lv_aload_n hx hb dX1_gradesBehind_28 rfl (lv_at hl 1 rfl) ?_
  obtain ⟨x_3, f_x_3, b_x_3⟩ := dg_I.int (i := gr) (k := 3) (lo := (-2147483648)) (hi := 2147483647) I (rX_0 gr hk_gr) (by decide +kernel)
  refine dg_get (C := RX2) (T := TX2) (N := 19) hx hb hts (fun w h => bw_mem (wU_X2 w h)) hown K hP (rX_0 gr hk_gr) rfl 3 (dk_dq rfl) (hts _ (bw_mem wB_673)) (fun _ h9 => h9) (v := .int x_3) (((m_2.1 gr 3 _ (rX_0 gr hk_gr) (dk_dq rfl)).trans (m_1.1 gr 3 _ (rX_0 gr hk_gr) (dk_dq rfl))).trans f_x_3) dX1_gradesBehind_29 ?_
  refine dg_callv hS hA1 hA (va_runV (As := [.ref (o + gr), .ref (o + 222), .int x_3]) (rest := []) F (c_w_enter l g D o S_2 gr hk_gr 222 (by unfold pX; decide : pX 222) x_3 ((dg_FG.sm m_2 (dk_dq rfl)) 222 (by unfold pX; decide : pX 222) w_1_0) I_2 H.size) (cwV 3 hts (bw_V wB_675 wB_676 wB_677 wB_594 wB_674) rfl rfl rfl (by decide +kernel) ⟨Nat.le_of_ble_eq_true rfl, Nat.le_of_ble_eq_true rfl⟩) (dg_preV sX_214 rfl K ST hP hS hA1 hA) rfl rfl hl.1 rfl (lv_room (Nat.le_of_ble_eq_true rfl)) dX1_gradesBehind_32 ⟨Nat.le_of_ble_eq_true rfl, Nat.le_of_ble_eq_true rfl⟩) (fun S_4 hw_4 H locs hP hS => ?_)
  obtain ⟨I_4, m_4, w_4_0, w_4_1, -⟩ := hw_4
  have M_4 := dg_sm.tr M_2 m_4 (dk_dq rfl) (dk_dq rfl)
  refine lv_aload_n hx hb dX1_gradesBehind_35 rfl (lv_at hl 0 rfl) ?_
  refine dg_get (C := RX1) (T := TX1) (N := 9) hx hb hts (fun w h => bw_mem (wU_X1 w h)) hown K hP sX_221 rfl 0 (dk_dq rfl) (hts _ (bw_mem wB_672)) (fun _ h9 => h9) (v := .ref (o + 214)) (show S_4.1 221 0 = .ref (o + 214) from dg_I.abs (d := 214) I_4 sX_221 (by decide +kernel)) dX1_gradesBehind_36 ?_
  refine lv_iload_n hx hb dX1_gradesBehind_39 rfl (lv_at hl 3 rfl) ?_
  refine dg_callv hS hA1 hA (va_runV (As := [.int a1]) (rest := []) F (c_w_pass l g D o S_4 a1 (Z2X.keep (Z2X.keep (Z2X.keep Z2 m_1 (dk_dq rfl) (dk_dq rfl)) m_2 (dk_dq rfl) (dk_dq rfl)) m_4 (dk_dq rfl) (dk_dq rfl)) w_4_0 I_4 H.size) (cwV 1 hts (bw_V wB_679 wB_680 wB_681 wB_594 wB_678) rfl rfl rfl (by decide +kernel) ⟨Nat.le_of_ble_eq_true rfl, Nat.le_of_ble_eq_true rfl⟩) (dg_preV sX_214 rfl K ST hP hS hA1 hA) rfl rfl hl.1 rfl (lv_room (Nat.le_of_ble_eq_true rfl)) dX1_gradesBehind_40 ⟨Nat.le_of_ble_eq_true rfl, Nat.le_of_ble_eq_true rfl⟩) (fun S_5 hw_5 H locs hP hS => ?_)
  obtain ⟨I_5, m_5, w_5_0, w_5_1, w_5_2, w_5_3, -⟩ := hw_5
  have M_5 := dg_sm.tr M_4 m_5 (dk_dq rfl) (dk_dq rfl)
  have hF_1 : F_f_gradesBehind o S gr pt a1 a2 a3 = F_f_gradesBehind_J1 o S_5 := (F_f_gradesBehind_p1 w_1_2 w_2_0 (zI_eq f_x_3) w_4_1 w_5_3)
  refine lv_aload_n hx hb dX1_gradesBehind_43 rfl (lv_at hl 0 rfl) ?_
  refine dg_get (C := RX1) (T := TX1) (N := 9) hx hb hts (fun w h => bw_mem (wU_X1 w h)) hown K hP sX_221 rfl 1 (dk_dq rfl) (hts _ (bw_mem wB_669)) (fun _ h9 => h9) (v := .ref (o + 222)) (show S_5.1 221 1 = .ref (o + 222) from dg_I.rel (d := 1) I_5 sX_221 (by decide +kernel)) dX1_gradesBehind_44 ?_
  refine dg_calli hS hA1 hA (va_runV (As := []) (rest := []) F (c_p_tubGrades l g D o S_5 222 (by unfold pX; decide : pX 222) I_5 H.size) (cwV 0 hts (bw_V wB_698 wB_509 wB_510 wB_493 wB_507) rfl rfl rfl (by decide +kernel) ⟨Nat.le_of_ble_eq_true rfl, Nat.le_of_ble_eq_true rfl⟩) (dg_preV (pX_0 222 (dk_dq rfl)) rfl K ST hP hS hA1 hA) rfl rfl hl.1 rfl (lv_room (Nat.le_of_ble_eq_true rfl)) dX1_gradesBehind_47 ⟨Nat.le_of_ble_eq_true rfl, Nat.le_of_ble_eq_true rfl⟩) (fun x_6 S_7 hw_7 H locs hP hS => ?_)
  rw [hw_7.1] at hP
  obtain ⟨hq_7, w_7_0, -⟩ := hw_7
  refine W.widen (k := 0) (n := 0) (Nat.le_of_ble_eq_true rfl) (Nat.le_of_ble_eq_true rfl) ?_
  exact dg_iret hx hb hr hlocks rfl hP hS ⟨I_5, M_5, w_5_0, w_5_1, (dg_FG.tr (dg_FG.tr (dg_FG.tr w_1_1 (dg_FG.sm m_2 (dk_dq rfl))) (dg_FG.sm m_4 (dk_dq rfl))) w_5_2), ⟨congrArg Prod.fst (Eq.symm (Eq.trans hF_1 (F_f_gradesBehind_p0 w_7_0))), congrArg Prod.snd (Eq.symm (Eq.trans hF_1 (F_f_gradesBehind_p0 w_7_0)))⟩, trivial⟩ dX1_gradesBehind_50
noncomputable def F_f_seekChange_J3 (x_549 : Int32) (x_614 : Int32) (x_615 : Int32) (S_620 : dg_S) : (Int32 × Int32 × Int32 × dg_S) ⊕ (dg_S) := let x_622 : Int32 := x_549 + 1; (Sum.inl (x_622, x_614, x_615, S_620))
noncomputable def F_f_seekChange_J5 (x_665 : Int32) (x_684 : Int32) (x_685 : Int32) (S_690 : dg_S) : (Int32 × Int32 × Int32 × dg_S) ⊕ ((Int32 × Int32 × Int32 × dg_S) ⊕ (dg_S)) := let x_692 : Int32 := x_665 + 1; (Sum.inl (x_692, x_684, x_685, S_690))
noncomputable def F_f_seekChange_J6 (x_665 : Int32) (x_549 : Int32) (S_704 : dg_S) : (Int32 × Int32 × Int32 × dg_S) ⊕ ((Int32 × Int32 × Int32 × dg_S) ⊕ (dg_S)) := (F_f_seekChange_J5 x_665 x_549 x_665 S_704)
noncomputable def F_f_seekChange_B4 (x_554 : Int32) (x_549 : Int32) (o : Nat) (gr : Nat) (pt : Nat) (a1 : Int32) : (Int32 × Int32 × Int32 × dg_S) → (Int32 × Int32 × Int32 × dg_S) ⊕ ((Int32 × Int32 × Int32 × dg_S) ⊕ (dg_S)) := fun w9 => match w9 with | (x_665, x_666, x_667, S_668) => (if x_554 ≤ x_665 then (Sum.inr ((F_f_seekChange_J3 x_549 x_666 x_667 S_668))) else let S_674 : dg_S := (F_f_gradesBehind o S_668 gr pt a1 x_549 x_665).1; let x_673 : Int32 := (F_f_gradesBehind o S_668 gr pt a1 x_549 x_665).2; let x_675 : Int32 := zI S_674 221 8; (if x_673 ≤ x_675 then (F_f_seekChange_J5 x_665 x_666 x_667 S_674) else let S_702 : dg_S := dg_uF S_674 221 6 (.int x_549); let S_703 : dg_S := dg_uF S_702 221 7 (.int x_665); let S_704 : dg_S := dg_uF S_703 221 8 (.int x_673); (F_f_seekChange_J6 x_665 x_549 S_704)))
noncomputable def F_f_seekChange_B2 (S : dg_S) (gr : Nat) (o : Nat) (pt : Nat) (a1 : Int32) : (Int32 × Int32 × Int32 × dg_S) → (Int32 × Int32 × Int32 × dg_S) ⊕ (dg_S) := fun w9 => match w9 with | (x_549, x_550, x_551, S_552) => let x_554 : Int32 := zI S gr 8; (if x_554 ≤ x_549 then (Sum.inr ((S_552))) else let x_556 : Int32 := x_549 + (1 : Int32); (lp (F_f_seekChange_B4 x_554 x_549 o gr pt a1) (Sum.inr S) ((17 - ((x_556 : Int32)).toInt).toNat + 1) (x_556, x_550, x_551, S_552)))
noncomputable def F_f_seekChange_J1 (S_13 : dg_S) (x_12 : Int32) (S : dg_S) (gr : Nat) (o : Nat) (pt : Nat) (a1 : Int32) : dg_S := let S_14 : dg_S := dg_uF S_13 221 8 (.int x_12); (lp (F_f_seekChange_B2 S gr o pt a1) S ((17 - ((0 : Int32)).toInt).toNat + 1) ((0 : Int32), (-1 : Int32), (-1 : Int32), S_14))
noncomputable def F_f_seekChange (o : Nat) (S : dg_S) (gr : Nat) (pt : Nat) (a1 : Int32) : dg_S := let x_1 : Int32 := zI S 221 3; (if x_1 = a1 then (S) else let S_5 : dg_S := dg_uF S 221 3 (.int a1); let S_7 : dg_S := dg_uF S_5 221 6 (.int (-1 : Int32)); let S_9 : dg_S := dg_uF S_7 221 7 (.int (-1 : Int32)); let S_13 : dg_S := (F_f_gradesBehind o S_9 gr pt a1 (0 : Int32) (0 : Int32)).1; let x_12 : Int32 := (F_f_gradesBehind o S_9 gr pt a1 (0 : Int32) (0 : Int32)).2; (F_f_seekChange_J1 S_13 x_12 S gr o pt a1))
theorem F_f_seekChange_p0 {S : dg_S} {gr : Nat} {o : Nat} {pt : Nat} {a1 : Int32} {x_549 : Int32} {x_550 : Int32} {x_551 : Int32} {S_552 : dg_S} {x_554 : Int32} (h0 : x_554 = zI S gr 8) (h1 : x_554 ≤ x_549) : (F_f_seekChange_B2 S gr o pt a1) (x_549, x_550, x_551, S_552) = Sum.inr (S_552) := by
  replace h0 := Eq.symm h0
  subst h0
  exact (Eq.trans (if_pos h1) rfl)
theorem F_f_seekChange_p1 {x_549 : Int32} {x_614 : Int32} {x_615 : Int32} {S_620 : dg_S} {x_622 : Int32} (h0 : x_622 = x_549 + 1) : F_f_seekChange_J3 x_549 x_614 x_615 S_620 = Sum.inl (x_622, x_614, x_615, S_620) := by
  replace h0 := Eq.symm h0
  subst h0
  exact rfl
theorem F_f_seekChange_p2 {x_554 : Int32} {x_549 : Int32} {o : Nat} {gr : Nat} {pt : Nat} {a1 : Int32} {x_665 : Int32} {x_666 : Int32} {x_667 : Int32} {S_668 : dg_S} (h0 : x_554 ≤ x_665) : (F_f_seekChange_B4 x_554 x_549 o gr pt a1) (x_665, x_666, x_667, S_668) = Sum.inr (F_f_seekChange_J3 x_549 x_666 x_667 S_668) := (Eq.trans (if_pos h0) rfl)
theorem F_f_seekChange_p3 {x_665 : Int32} {x_684 : Int32} {x_685 : Int32} {S_690 : dg_S} {x_692 : Int32} (h0 : x_692 = x_665 + 1) : F_f_seekChange_J5 x_665 x_684 x_685 S_690 = Sum.inl (x_692, x_684, x_685, S_690) := by
  replace h0 := Eq.symm h0
  subst h0
  exact rfl
theorem F_f_seekChange_p4 {x_554 : Int32} {x_549 : Int32} {o : Nat} {gr : Nat} {pt : Nat} {a1 : Int32} {x_665 : Int32} {x_666 : Int32} {x_667 : Int32} {S_668 : dg_S} {S_674 : dg_S} {x_673 : Int32} {x_675 : Int32} (h0 : ¬ (x_554 ≤ x_665)) (h1 : S_674 = (F_f_gradesBehind o S_668 gr pt a1 x_549 x_665).1) (h2 : x_673 = (F_f_gradesBehind o S_668 gr pt a1 x_549 x_665).2) (h3 : x_675 = zI S_674 221 8) (h4 : x_673 ≤ x_675) : (F_f_seekChange_B4 x_554 x_549 o gr pt a1) (x_665, x_666, x_667, S_668) = F_f_seekChange_J5 x_665 x_666 x_667 S_674 := by
  replace h1 := Eq.symm h1
  subst h1
  replace h2 := Eq.symm h2
  subst h2
  replace h3 := Eq.symm h3
  subst h3
  exact (Eq.trans (if_neg h0) (Eq.trans (if_pos h4) rfl))
theorem F_f_seekChange_p5 {x_665 : Int32} {x_549 : Int32} {S_704 : dg_S}  : F_f_seekChange_J6 x_665 x_549 S_704 = F_f_seekChange_J5 x_665 x_549 x_665 S_704 := rfl
theorem F_f_seekChange_p6 {x_554 : Int32} {x_549 : Int32} {o : Nat} {gr : Nat} {pt : Nat} {a1 : Int32} {x_665 : Int32} {x_666 : Int32} {x_667 : Int32} {S_668 : dg_S} {S_704 : dg_S} {S_674 : dg_S} {x_673 : Int32} {x_675 : Int32} {S_702 : dg_S} {S_703 : dg_S} (h0 : ¬ (x_554 ≤ x_665)) (h1 : S_674 = (F_f_gradesBehind o S_668 gr pt a1 x_549 x_665).1) (h2 : x_673 = (F_f_gradesBehind o S_668 gr pt a1 x_549 x_665).2) (h3 : x_675 = zI S_674 221 8) (h4 : ¬ (x_673 ≤ x_675)) (h5 : S_702 = dg_uF S_674 221 6 (.int x_549)) (h6 : S_703 = dg_uF S_702 221 7 (.int x_665)) (h7 : S_704 = dg_uF S_703 221 8 (.int x_673)) : (F_f_seekChange_B4 x_554 x_549 o gr pt a1) (x_665, x_666, x_667, S_668) = F_f_seekChange_J6 x_665 x_549 S_704 := by
  replace h1 := Eq.symm h1
  subst h1
  replace h2 := Eq.symm h2
  subst h2
  replace h3 := Eq.symm h3
  subst h3
  replace h5 := Eq.symm h5
  subst h5
  replace h6 := Eq.symm h6
  subst h6
  replace h7 := Eq.symm h7
  subst h7
  exact (Eq.trans (if_neg h0) (Eq.trans (if_neg h4) rfl))
theorem F_f_seekChange_p7 {S : dg_S} {gr : Nat} {o : Nat} {pt : Nat} {a1 : Int32} {x_549 : Int32} {x_550 : Int32} {x_551 : Int32} {S_552 : dg_S} {x_554 : Int32} {x_556 : Int32} (h0 : x_554 = zI S gr 8) (h1 : ¬ (x_554 ≤ x_549)) (h2 : x_556 = x_549 + (1 : Int32)) : (F_f_seekChange_B2 S gr o pt a1) (x_549, x_550, x_551, S_552) = lp (F_f_seekChange_B4 x_554 x_549 o gr pt a1) (Sum.inr S) ((17 - ((x_556 : Int32)).toInt).toNat + 1) (x_556, x_550, x_551, S_552) := by
  replace h0 := Eq.symm h0
  subst h0
  replace h2 := Eq.symm h2
  subst h2
  exact (Eq.trans (if_neg h1) rfl)
theorem F_f_seekChange_p8 {S_13 : dg_S} {x_12 : Int32} {S : dg_S} {gr : Nat} {o : Nat} {pt : Nat} {a1 : Int32} {S_14 : dg_S} (h0 : S_14 = dg_uF S_13 221 8 (.int x_12)) : F_f_seekChange_J1 S_13 x_12 S gr o pt a1 = lp (F_f_seekChange_B2 S gr o pt a1) S ((17 - ((0 : Int32)).toInt).toNat + 1) ((0 : Int32), (-1 : Int32), (-1 : Int32), S_14) := by
  replace h0 := Eq.symm h0
  subst h0
  exact rfl
theorem F_f_seekChange_p9 {o : Nat} {S : dg_S} {gr : Nat} {pt : Nat} {a1 : Int32} {S_13 : dg_S} {x_12 : Int32} {x_1 : Int32} {S_5 : dg_S} {S_7 : dg_S} {S_9 : dg_S} (h0 : x_1 = zI S 221 3) (h1 : ¬ (x_1 = a1)) (h2 : S_5 = dg_uF S 221 3 (.int a1)) (h3 : S_7 = dg_uF S_5 221 6 (.int (-1 : Int32))) (h4 : S_9 = dg_uF S_7 221 7 (.int (-1 : Int32))) (h5 : S_13 = (F_f_gradesBehind o S_9 gr pt a1 (0 : Int32) (0 : Int32)).1) (h6 : x_12 = (F_f_gradesBehind o S_9 gr pt a1 (0 : Int32) (0 : Int32)).2) : F_f_seekChange o S gr pt a1 = F_f_seekChange_J1 S_13 x_12 S gr o pt a1 := by
  replace h0 := Eq.symm h0
  subst h0
  replace h2 := Eq.symm h2
  subst h2
  replace h3 := Eq.symm h3
  subst h3
  replace h4 := Eq.symm h4
  subst h4
  replace h5 := Eq.symm h5
  subst h5
  replace h6 := Eq.symm h6
  subst h6
  exact (Eq.trans (if_neg h1) rfl)
theorem F_f_seekChange_p10 {o : Nat} {S : dg_S} {gr : Nat} {pt : Nat} {a1 : Int32} {x_1 : Int32} (h0 : x_1 = zI S 221 3) (h1 : x_1 = a1) : F_f_seekChange o S gr pt a1 = S := by
  replace h0 := Eq.symm h0
  subst h0
  exact (Eq.trans (if_pos h1) rfl)
set_option maxHeartbeats 8000000 in
set_option maxRecDepth 100000 in
theorem c_f_seekChange (l : Launch) (g : Nat → ClassId) (D : va_G) (o : Nat) (S : dg_S) (gr : Nat) (hk_gr : rX gr) (pt : Nat) (hk_pt : pX pt) (a1 : Int32) (hf_pt : dg_fil S pt) (Z2 : Z2X S) (Z3 : Z3X o S) (I : CX o S) (sz : Nat) : Met l yX1_seekChange (bw yX1_seekChange cX1_seekChange 7 none) ({ frames := 7, cells := 0, slots := 0, locals := 174 } : Room) (dk_Pc g D (dg_w g shX o rfX S) sz [.ref (o + 221), .ref (o + gr), .ref (o + pt), .int a1]) (va_Qv (fun S' => CX o S' ∧ dg_sm shX [(3, 0), (3, 1), (36, 4), (36, 6), (36, 7), (36, 8), (36, 9), (36, 10), (36, 11), (36, 12), (37, 0), (37, 1), (37, 2), (37, 3), (37, 4), (37, 5), (37, 7), (43, 3), (43, 6), (43, 7), (43, 8)] [4, 5, 6, 7, 8, 9, 38, 39, 40, 41, 42] S S' ∧ Z2X S' ∧ Z3X o S' ∧ dg_FG S S' ∧ (S' = F_f_seekChange o S gr pt a1) ∧ True) (dg_B g D shX o rfX) (dg_A o shX.length sz)) 0 0 (dg_A o shX.length sz) := by
  refine dg_met (cc := cX1_seekChange) (maxL := 7) (ret := none) (dk_dq rfl) rfl (Nat.le_of_ble_eq_true rfl) ?_
  intro p e s m args below meth c A hAe harg hx hb hr hml hts hown hlocks hin hP K hS hA1 hA ST hsz ls hl
  rw [← hAe]
  have F : CallFix p m c cX1_seekChange 7 s args (bw yX1_seekChange cX1_seekChange 7 none) RX1 := ⟨hx, hb, hml, hown, hts⟩
  have hl : lv_has ls 7 [(0, .ref (o + 221)), (1, .ref (o + gr)), (2, .ref (o + pt)), (3, .int a1)] := hl
  have M_0 : dg_sm shX [(3, 0), (3, 1), (36, 4), (36, 6), (36, 7), (36, 8), (36, 9), (36, 10), (36, 11), (36, 12), (37, 0), (37, 1), (37, 2), (37, 3), (37, 4), (37, 5), (37, 7), (43, 3), (43, 6), (43, 7), (43, 8)] [4, 5, 6, 7, 8, 9, 38, 39, 40, 41, 42] S S := dg_sm.rf
  refine lv_aload_n hx hb dX1_seekChange_0 rfl (lv_at hl 0 rfl) ?_
  obtain ⟨x_1, f_x_1, b_x_1⟩ := dg_I.int (i := 221) (k := 3) (lo := (-2147483648)) (hi := 2147483647) I sX_221 (by decide +kernel)
  refine dg_get (C := RX1) (T := TX1) (N := 9) hx hb hts (fun w h => bw_mem (wU_X1 w h)) hown K hP sX_221 rfl 3 (dk_dq rfl) (hts _ (bw_mem wB_668)) (fun _ h9 => h9) (v := .int x_1) f_x_1 dX1_seekChange_1 ?_
  refine lv_iload_n hx hb dX1_seekChange_4 rfl (lv_at hl 3 rfl) ?_
  refine lv_icmp_ne (tgt := 9) hx hb dX1_seekChange_5 (dk_dq rfl) (fun c_2 => ?_) (fun c_2 => ?_)
  · as_aux_lemma =>
      have hf_2 := dk_full x_1
      have hf_3 := dk_full a1
      have jc_2 := dk_neqc (k := (a1).toInt) rfl c_2
      refine lv_aload_n hx hb dX1_seekChange_9 rfl (lv_at hl 0 rfl) ?_
      refine lv_iload_n hx hb dX1_seekChange_10 rfl (lv_at hl 3 rfl) ?_
      refine dg_put (ci := 1) (v := .int a1) (ty := tyX1 3) (C := RX1) (T := TX1) (N := 9) hx hb hts (fun w h => bw_mem (wU_X1 w h)) tyX1 tyX1_ok nmX1 hown K hP hS hA1 sX_221 rfl 3 (dk_dq rfl) (hts _ (bw_mem wB_668)) (fun _ h9 => h9) rfl (by decide +kernel) rfl rfl dX1_seekChange_11 (fun S_5 e_5 H locs hP hS => ?_)
      have I_5 := dg_I.uFi (lo := (-2147483648)) (hi := 2147483647) I e_5 sX_221 (by decide +kernel) (show (-2147483648) ≤ (a1).toInt ∧ (a1).toInt ≤ 2147483647 from (dk_full _))
      have M_5 := dg_sm.uF M_0 e_5 sX_221 (dk_dq rfl)
      refine lv_aload_n hx hb dX1_seekChange_14 rfl (lv_at hl 0 rfl) ?_
      refine lv_iconst (v := (-1)) hx hb dX1_seekChange_15 (by decide +kernel) ?_
      have hz_6 : (-1 : Int32).toInt = (-1) := by decide +kernel
      refine dg_put (ci := 1) (v := .int (-1)) (ty := tyX1 6) (C := RX1) (T := TX1) (N := 9) hx hb hts (fun w h => bw_mem (wU_X1 w h)) tyX1 tyX1_ok nmX1 hown K hP hS hA1 sX_221 rfl 6 (dk_dq rfl) (hts _ (bw_mem wB_699)) (fun _ h9 => h9) rfl (by decide +kernel) rfl rfl dX1_seekChange_16 (fun S_7 e_7 H locs hP hS => ?_)
      have I_7 := dg_I.uFi (lo := (-2147483648)) (hi := 2147483647) I_5 e_7 sX_221 (by decide +kernel) (show (-2147483648) ≤ ((-1 : Int32)).toInt ∧ ((-1 : Int32)).toInt ≤ 2147483647 from (by decide +kernel))
      have M_7 := dg_sm.uF M_5 e_7 sX_221 (dk_dq rfl)
      refine lv_aload_n hx hb dX1_seekChange_19 rfl (lv_at hl 0 rfl) ?_
      refine lv_iconst (v := (-1)) hx hb dX1_seekChange_20 (by decide +kernel) ?_
      have hz_8 : (-1 : Int32).toInt = (-1) := by decide +kernel
      refine dg_put (ci := 1) (v := .int (-1)) (ty := tyX1 7) (C := RX1) (T := TX1) (N := 9) hx hb hts (fun w h => bw_mem (wU_X1 w h)) tyX1 tyX1_ok nmX1 hown K hP hS hA1 sX_221 rfl 7 (dk_dq rfl) (hts _ (bw_mem wB_700)) (fun _ h9 => h9) rfl (by decide +kernel) rfl rfl dX1_seekChange_21 (fun S_9 e_9 H locs hP hS => ?_)
      have I_9 := dg_I.uFi (lo := (-2147483648)) (hi := 2147483647) I_7 e_9 sX_221 (by decide +kernel) (show (-2147483648) ≤ ((-1 : Int32)).toInt ∧ ((-1 : Int32)).toInt ≤ 2147483647 from (by decide +kernel))
      have M_9 := dg_sm.uF M_7 e_9 sX_221 (dk_dq rfl)
      refine lv_aload_n hx hb dX1_seekChange_24 rfl (lv_at hl 0 rfl) ?_
      refine lv_aload_n hx hb dX1_seekChange_25 rfl (lv_at hl 0 rfl) ?_
      refine lv_aload_n hx hb dX1_seekChange_26 rfl (lv_at hl 1 rfl) ?_
      refine lv_aload_n hx hb dX1_seekChange_27 rfl (lv_at hl 2 rfl) ?_
      refine lv_iload_n hx hb dX1_seekChange_28 rfl (lv_at hl 3 rfl) ?_
      refine lv_iconst (v := 0) hx hb dX1_seekChange_29 (by decide +kernel) ?_
      refine lv_iconst (v := 0) hx hb dX1_seekChange_30 (by decide +kernel) ?_
      have hz_10 : (0 : Int32).toInt = 0 := by decide +kernel
      have hz_11 : (0 : Int32).toInt = 0 := by decide +kernel
      refine dg_calli hS hA1 hA (va_runV (As := [.ref (o + gr), .ref (o + pt), .int a1, .int 0, .int 0]) (rest := [.ref (o + 221)]) F (c_f_gradesBehind l g D o S_9 gr hk_gr pt hk_pt a1 0 (by decide +kernel) 0 (by decide +kernel) ((dg_FG.tr (dg_FG.tr (dg_FG.uF e_5) (dg_FG.uF e_7)) (dg_FG.uF e_9)) pt hk_pt hf_pt) (Z2X.keep (Z2X.keep (Z2X.keep Z2 (dg_sm.uF (WF := [(43, 3)]) (WA := []) dg_sm.rf e_5 sX_221 (dk_dq rfl)) (dk_dq rfl) (dk_dq rfl)) (dg_sm.uF (WF := [(43, 6)]) (WA := []) dg_sm.rf e_7 sX_221 (dk_dq rfl)) (dk_dq rfl) (dk_dq rfl)) (dg_sm.uF (WF := [(43, 7)]) (WA := []) dg_sm.rf e_9 sX_221 (dk_dq rfl)) (dk_dq rfl) (dk_dq rfl)) (Z3X.keep (Z3X.keep (Z3X.keep Z3 (dg_sm.uF (WF := [(43, 3)]) (WA := []) dg_sm.rf e_5 sX_221 (dk_dq rfl)) (dg_FG.uF e_5) (dk_dq rfl)) (dg_sm.uF (WF := [(43, 6)]) (WA := []) dg_sm.rf e_7 sX_221 (dk_dq rfl)) (dg_FG.uF e_7) (dk_dq rfl)) (dg_sm.uF (WF := [(43, 7)]) (WA := []) dg_sm.rf e_9 sX_221 (dk_dq rfl)) (dg_FG.uF e_9) (dk_dq rfl)) I_9 H.size) (cwV 5 hts (bw_V wB_702 wB_703 wB_704 wB_693 wB_701) rfl rfl rfl (by decide +kernel) ⟨Nat.le_of_ble_eq_true rfl, Nat.le_of_ble_eq_true rfl⟩) (dg_preV sX_221 rfl K ST hP hS hA1 hA) rfl rfl hl.1 rfl (lv_room (Nat.le_of_ble_eq_true rfl)) dX1_seekChange_31 ⟨Nat.le_of_ble_eq_true rfl, Nat.le_of_ble_eq_true rfl⟩) (fun x_12 S_13 hw_13 H locs hP hS => ?_)
      obtain ⟨I_13, m_13, w_13_0, w_13_1, w_13_2, w_13_3, -⟩ := hw_13
      have M_13 := dg_sm.tr M_9 m_13 (dk_dq rfl) (dk_dq rfl)
      have hF_1 : F_f_seekChange o S gr pt a1 = F_f_seekChange_J1 S_13 x_12 S gr o pt a1 := (F_f_seekChange_p9 (zI_eq f_x_1) c_2 e_5 e_7 e_9 w_13_3.1 w_13_3.2)
      refine dg_put (ci := 1) (v := .int x_12) (ty := tyX1 8) (C := RX1) (T := TX1) (N := 9) hx hb hts (fun w h => bw_mem (wU_X1 w h)) tyX1 tyX1_ok nmX1 hown K hP hS hA1 sX_221 rfl 8 (dk_dq rfl) (hts _ (bw_mem wB_705)) (fun _ h9 => h9) rfl (by decide +kernel) rfl rfl dX1_seekChange_34 (fun S_14 e_14 H locs hP hS => ?_)
      have I_14 := dg_I.uFi (lo := (-2147483648)) (hi := 2147483647) I_13 e_14 sX_221 (by decide +kernel) (show (-2147483648) ≤ (x_12).toInt ∧ (x_12).toInt ≤ 2147483647 from (dk_full _))
      have M_14 := dg_sm.uF M_13 e_14 sX_221 (dk_dq rfl)
      refine lv_iconst (v := 0) hx hb dX1_seekChange_37 (by decide +kernel) ?_
      refine lv_istore (lv' := [(4, .int 0), (0, .ref (o + 221)), (1, .ref (o + gr)), (2, .ref (o + pt)), (3, .int a1)]) hx hb dX1_seekChange_38 hl (dk_dq rfl) rfl (fun ls hl => ?_)
      have L_553 : ∀ (n : Nat) (x_549 : Int32) (x_550 : Int32) (x_551 : Int32), (0 ≤ (x_549).toInt ∧ (x_549).toInt ≤ 16) → ((-1) ≤ (x_550).toInt ∧ (x_550).toInt ≤ 2147483647) → ((-1) ≤ (x_551).toInt ∧ (x_551).toInt ≤ 2147483647) → ((17 - (x_549).toInt).toNat < n) → ∀ S_552 : dg_S, CX o S_552 → dg_sm shX [(3, 0), (3, 1), (36, 4), (36, 6), (36, 7), (36, 8), (36, 9), (36, 10), (36, 11), (36, 12), (37, 0), (37, 1), (37, 2), (37, 3), (37, 4), (37, 5), (37, 7), (43, 3), (43, 6), (43, 7), (43, 8)] [4, 5, 6, 7, 8, 9, 38, 39, 40, 41, 42] S S_552 → dg_FG S S_552 → S_552.1 221 3 = .int a1 → S_552.1 221 6 = .int x_550 → S_552.1 221 7 = .int x_551 → Z2X S_552 → Z3X o S_552 → dg_fil S_552 pt → (F_f_seekChange o S gr pt a1 = lp (F_f_seekChange_B2 S gr o pt a1) S n (x_549, x_550, x_551, S_552)) → ∀ (H : Heap) (locs : List Loc), va_P D vwCl (dg_w g shX o rfX S_552) H → va_S A s.heap H locs → ∀ ls : Array Slot, lv_has ls 7 [(4, .int x_549), (0, .ref (o + 221)), (1, .ref (o + gr)), (2, .ref (o + pt)), (3, .int a1)] → W p l e ({ frames := 7, cells := 0, slots := 0, locals := 174 } : Room) s m args below meth c H locs 0 0 (MQ below (va_Qv (fun S' => CX o S' ∧ dg_sm shX [(3, 0), (3, 1), (36, 4), (36, 6), (36, 7), (36, 8), (36, 9), (36, 10), (36, 11), (36, 12), (37, 0), (37, 1), (37, 2), (37, 3), (37, 4), (37, 5), (37, 7), (43, 3), (43, 6), (43, 7), (43, 8)] [4, 5, 6, 7, 8, 9, 38, 39, 40, 41, 42] S S' ∧ Z2X S' ∧ Z3X o S' ∧ dg_FG S S' ∧ (S' = F_f_seekChange o S gr pt a1) ∧ True) (dg_B g D shX o rfX) A) args s 0 0 A) (F0 m 40 ls []) := by
        as_aux_lemma =>
          intro n
          induction n with
          | zero =>
            intro x_549 x_550 x_551 b_x_549 b_x_550 b_x_551 hmu S_552 I_552 M_552 G_552 ff_552_3_221 ff_552_6_221 ff_552_7_221 Z2_552 Z3_552 fl_552_0 hF_2 H locs hP hS ls hl
            omega
          | succ n ih =>
            as_aux_lemma =>
              intro x_549 x_550 x_551 b_x_549 b_x_550 b_x_551 hmu S_552 I_552 M_552 G_552 ff_552_3_221 ff_552_6_221 ff_552_7_221 Z2_552 Z3_552 fl_552_0 hF_2 H locs hP hS ls hl
              refine lv_iload hx hb dX1_seekChange_40 (lv_at hl 0 rfl) ?_
              refine lv_aload_n hx hb dX1_seekChange_42 rfl (lv_at hl 2 rfl) ?_
              obtain ⟨x_554, f_x_554, b_x_554⟩ := dg_I.int (i := gr) (k := 8) (lo := 0) (hi := 16) I (rX_0 gr hk_gr) (by decide +kernel)
              refine dg_get (C := RX2) (T := TX2) (N := 19) hx hb hts (fun w h => bw_mem (wU_X2 w h)) hown K hP (rX_0 gr hk_gr) rfl 8 (dk_dq rfl) (hts _ (bw_mem wB_706)) (fun _ h9 => h9) (v := .int x_554) ((M_552.1 gr 8 _ (rX_0 gr hk_gr) (dk_dq rfl)).trans f_x_554) dX1_seekChange_43 ?_
              refine lv_icmp_ge (tgt := 116) hx hb dX1_seekChange_46 (dk_dq rfl) (fun c_555 => ?_) (fun c_555 => ?_)
              · have jc_555 := dk_gec (k := (x_554).toInt) rfl c_555
                refine W.widen (k := 0) (n := 0) (Nat.le_of_ble_eq_true rfl) (Nat.le_of_ble_eq_true rfl) ?_
                exact dg_vret hx hb hr hlocks hP hS ⟨I_552, M_552, Z2_552, Z3_552, G_552, (Eq.symm (lp_r hF_2 (F_f_seekChange_p0 (zI_eq f_x_554) c_555))), trivial⟩ dX1_seekChange_116
              · as_aux_lemma =>
                  have jc_555 := dk_ngec (k := (x_554).toInt) rfl c_555
                  refine lv_iload hx hb dX1_seekChange_49 (lv_at hl 0 rfl) ?_
                  refine lv_iconst (v := 1) hx hb dX1_seekChange_51 (by decide +kernel) ?_
                  refine lv_iadd hx hb dX1_seekChange_52 ?_
                  refine lv_topi (fun x_556 ex_556 => ?_)
                  have jx_556 : (x_556).toInt = (x_549).toInt + 1 := by rw [ex_556]; exact dk_addT2 rfl (by decide +kernel) (by omega)
                  refine lv_istore (lv' := [(5, .int x_556), (4, .int x_549), (0, .ref (o + 221)), (1, .ref (o + gr)), (2, .ref (o + pt)), (3, .int a1)]) hx hb dX1_seekChange_53 hl (dk_dq rfl) rfl (fun ls hl => ?_)
                  have J_621 : ∀ (x_613 : Int32) (x_614 : Int32) (x_615 : Int32), (1 ≤ (x_613).toInt ∧ (x_613).toInt ≤ 16) → ((-1) ≤ (x_614).toInt ∧ (x_614).toInt ≤ 2147483647) → ((-1) ≤ (x_615).toInt ∧ (x_615).toInt ≤ 2147483647) → ∀ S_620 : dg_S, CX o S_620 → dg_sm shX [(3, 0), (3, 1), (36, 4), (36, 6), (36, 7), (36, 8), (36, 9), (36, 10), (36, 11), (36, 12), (37, 0), (37, 1), (37, 2), (37, 3), (37, 4), (37, 5), (37, 7), (43, 3), (43, 6), (43, 7), (43, 8)] [4, 5, 6, 7, 8, 9, 38, 39, 40, 41, 42] S S_620 → dg_FG S S_620 → S_620.1 221 3 = .int a1 → S_620.1 221 6 = .int x_614 → S_620.1 221 7 = .int x_615 → Z2X S_620 → Z3X o S_620 → dg_fil S_620 pt → ((F_f_seekChange_B2 S gr o pt a1) (x_549, x_550, x_551, S_552) = F_f_seekChange_J3 x_549 x_614 x_615 S_620) → ∀ (H : Heap) (locs : List Loc), va_P D vwCl (dg_w g shX o rfX S_620) H → va_S A s.heap H locs → ∀ ls : Array Slot, lv_has ls 7 [(5, .int x_613), (4, .int x_549), (0, .ref (o + 221)), (1, .ref (o + gr)), (2, .ref (o + pt)), (3, .int a1)] → W p l e ({ frames := 7, cells := 0, slots := 0, locals := 174 } : Room) s m args below meth c H locs 0 0 (MQ below (va_Qv (fun S' => CX o S' ∧ dg_sm shX [(3, 0), (3, 1), (36, 4), (36, 6), (36, 7), (36, 8), (36, 9), (36, 10), (36, 11), (36, 12), (37, 0), (37, 1), (37, 2), (37, 3), (37, 4), (37, 5), (37, 7), (43, 3), (43, 6), (43, 7), (43, 8)] [4, 5, 6, 7, 8, 9, 38, 39, 40, 41, 42] S S' ∧ Z2X S' ∧ Z3X o S' ∧ dg_FG S S' ∧ (S' = F_f_seekChange o S gr pt a1) ∧ True) (dg_B g D shX o rfX) A) args s 0 0 A) (F0 m 110 ls []) := by
                    intro x_613 x_614 x_615 b_x_613 b_x_614 b_x_615 S_620 I_620 M_620 G_620 ff_620_3_221 ff_620_6_221 ff_620_7_221 Z2_620 Z3_620 fl_620_0 hF_3 H locs hP hS ls hl
                    obtain ⟨x_622, ex_622⟩ : ∃ z, z = x_549 + 1 := ⟨_, rfl⟩
                    have jx_622 : (x_622).toInt = (x_549).toInt + 1 := by rw [ex_622]; exact dk_addT2 rfl (by decide +kernel) (by omega)
                    refine lv_iinc (v := x_622) (lv' := [(4, .int x_622), (5, .int x_613), (0, .ref (o + 221)), (1, .ref (o + gr)), (2, .ref (o + pt)), (3, .int a1)]) hx hb dX1_seekChange_110 hl (k := 1) rfl (by rw [ex_622]; rfl) (dk_dq rfl) rfl (fun ls hl => ?_)
                    refine lv_goto (tgt := 40) hx hb dX1_seekChange_113 (dk_dq rfl) ?_
                    have hf_622 := dk_full x_614
                    have hf_623 := dk_full x_615
                    exact ih x_622 x_614 x_615 (by omega) (by omega) (by omega) (by first | exact mu_lt hmu (by omega) (by omega) | omega) S_620 I_620 M_620 G_620 ff_620_3_221 ff_620_6_221 ff_620_7_221 Z2_620 Z3_620 fl_620_0 (lp_l hF_2 (Eq.trans hF_3 (F_f_seekChange_p1 ex_622))) _ _ hP hS _ (lv_sub hl [0, 2, 3, 4, 5] rfl)
                  have L_669 : ∀ (n : Nat) (x_665 : Int32) (x_666 : Int32) (x_667 : Int32), (1 ≤ (x_665).toInt ∧ (x_665).toInt ≤ 16) → ((-1) ≤ (x_666).toInt ∧ (x_666).toInt ≤ 2147483647) → ((-1) ≤ (x_667).toInt ∧ (x_667).toInt ≤ 2147483647) → ((17 - (x_665).toInt).toNat < n) → ∀ S_668 : dg_S, CX o S_668 → dg_sm shX [(3, 0), (3, 1), (36, 4), (36, 6), (36, 7), (36, 8), (36, 9), (36, 10), (36, 11), (36, 12), (37, 0), (37, 1), (37, 2), (37, 3), (37, 4), (37, 5), (37, 7), (43, 3), (43, 6), (43, 7), (43, 8)] [4, 5, 6, 7, 8, 9, 38, 39, 40, 41, 42] S S_668 → dg_FG S S_668 → S_668.1 221 3 = .int a1 → S_668.1 221 6 = .int x_666 → S_668.1 221 7 = .int x_667 → Z2X S_668 → Z3X o S_668 → dg_fil S_668 pt → ((F_f_seekChange_B2 S gr o pt a1) (x_549, x_550, x_551, S_552) = lp (F_f_seekChange_B4 x_554 x_549 o gr pt a1) (Sum.inr S) n (x_665, x_666, x_667, S_668)) → ∀ (H : Heap) (locs : List Loc), va_P D vwCl (dg_w g shX o rfX S_668) H → va_S A s.heap H locs → ∀ ls : Array Slot, lv_has ls 7 [(5, .int x_665), (4, .int x_549), (0, .ref (o + 221)), (1, .ref (o + gr)), (2, .ref (o + pt)), (3, .int a1)] → W p l e ({ frames := 7, cells := 0, slots := 0, locals := 174 } : Room) s m args below meth c H locs 0 0 (MQ below (va_Qv (fun S' => CX o S' ∧ dg_sm shX [(3, 0), (3, 1), (36, 4), (36, 6), (36, 7), (36, 8), (36, 9), (36, 10), (36, 11), (36, 12), (37, 0), (37, 1), (37, 2), (37, 3), (37, 4), (37, 5), (37, 7), (43, 3), (43, 6), (43, 7), (43, 8)] [4, 5, 6, 7, 8, 9, 38, 39, 40, 41, 42] S S' ∧ Z2X S' ∧ Z3X o S' ∧ dg_FG S S' ∧ (S' = F_f_seekChange o S gr pt a1) ∧ True) (dg_B g D shX o rfX) A) args s 0 0 A) (F0 m 55 ls []) := by
                    as_aux_lemma =>
                      intro n
                      induction n with
                      | zero =>
                        intro x_665 x_666 x_667 b_x_665 b_x_666 b_x_667 hmu S_668 I_668 M_668 G_668 ff_668_3_221 ff_668_6_221 ff_668_7_221 Z2_668 Z3_668 fl_668_0 hF_4 H locs hP hS ls hl
                        omega
                      | succ n ih =>
                        as_aux_lemma =>
                          intro x_665 x_666 x_667 b_x_665 b_x_666 b_x_667 hmu S_668 I_668 M_668 G_668 ff_668_3_221 ff_668_6_221 ff_668_7_221 Z2_668 Z3_668 fl_668_0 hF_4 H locs hP hS ls hl
                          refine lv_iload hx hb dX1_seekChange_55 (lv_at hl 0 rfl) ?_
                          refine lv_aload_n hx hb dX1_seekChange_57 rfl (lv_at hl 3 rfl) ?_
                          refine dg_get (C := RX2) (T := TX2) (N := 19) hx hb hts (fun w h => bw_mem (wU_X2 w h)) hown K hP (rX_0 gr hk_gr) rfl 8 (dk_dq rfl) (hts _ (bw_mem wB_706)) (fun _ h9 => h9) (v := .int x_554) ((M_668.1 gr 8 _ (rX_0 gr hk_gr) (dk_dq rfl)).trans f_x_554) dX1_seekChange_58 ?_
                          refine lv_icmp_ge (tgt := 110) hx hb dX1_seekChange_61 (dk_dq rfl) (fun c_670 => ?_) (fun c_670 => ?_)
                          · have jc_670 := dk_gec (k := (x_554).toInt) rfl c_670
                            have hf_670 := dk_full x_666
                            have hf_671 := dk_full x_667
                            exact J_621 x_665 x_666 x_667 (by omega) (by omega) (by omega) S_668 I_668 M_668 G_668 ff_668_3_221 ff_668_6_221 ff_668_7_221 Z2_668 Z3_668 fl_668_0 (lp_r hF_4 (F_f_seekChange_p2 c_670)) _ _ hP hS _ (lv_sub hl [0, 1, 2, 3, 4, 5] rfl)
                          · as_aux_lemma =>
                              have jc_670 := dk_ngec (k := (x_554).toInt) rfl c_670
                              refine lv_aload_n hx hb dX1_seekChange_64 rfl (lv_at hl 2 rfl) ?_
                              refine lv_aload_n hx hb dX1_seekChange_65 rfl (lv_at hl 3 rfl) ?_
                              refine lv_aload_n hx hb dX1_seekChange_66 rfl (lv_at hl 4 rfl) ?_
                              refine lv_iload_n hx hb dX1_seekChange_67 rfl (lv_at hl 5 rfl) ?_
                              refine lv_iload hx hb dX1_seekChange_68 (lv_at hl 1 rfl) ?_
                              refine lv_iload hx hb dX1_seekChange_70 (lv_at hl 0 rfl) ?_
                              refine dg_calli hS hA1 hA (va_runV (As := [.ref (o + gr), .ref (o + pt), .int a1, .int x_549, .int x_665]) (rest := []) F (c_f_gradesBehind l g D o S_668 gr hk_gr pt hk_pt a1 x_549 (by omega) x_665 (by omega) fl_668_0 Z2_668 Z3_668 I_668 H.size) (cwV 5 hts (bw_V wB_702 wB_703 wB_704 wB_693 wB_701) rfl rfl rfl (by decide +kernel) ⟨Nat.le_of_ble_eq_true rfl, Nat.le_of_ble_eq_true rfl⟩) (dg_preV sX_221 rfl K ST hP hS hA1 hA) rfl rfl hl.1 rfl (lv_room (Nat.le_of_ble_eq_true rfl)) dX1_seekChange_72 ⟨Nat.le_of_ble_eq_true rfl, Nat.le_of_ble_eq_true rfl⟩) (fun x_673 S_674 hw_674 H locs hP hS => ?_)
                              obtain ⟨I_674, m_674, w_674_0, w_674_1, w_674_2, w_674_3, -⟩ := hw_674
                              have M_674 := dg_sm.tr M_668 m_674 (dk_dq rfl) (dk_dq rfl)
                              refine lv_istore (lv' := [(6, .int x_673), (5, .int x_665), (4, .int x_549), (0, .ref (o + 221)), (1, .ref (o + gr)), (2, .ref (o + pt)), (3, .int a1)]) hx hb dX1_seekChange_75 hl (dk_dq rfl) rfl (fun ls hl => ?_)
                              refine lv_iload hx hb dX1_seekChange_77 (lv_at hl 0 rfl) ?_
                              refine lv_aload_n hx hb dX1_seekChange_79 rfl (lv_at hl 3 rfl) ?_
                              obtain ⟨x_675, f_x_675, b_x_675⟩ := dg_I.int (i := 221) (k := 8) (lo := (-2147483648)) (hi := 2147483647) I_674 sX_221 (by decide +kernel)
                              refine dg_get (C := RX1) (T := TX1) (N := 9) hx hb hts (fun w h => bw_mem (wU_X1 w h)) hown K hP sX_221 rfl 8 (dk_dq rfl) (hts _ (bw_mem wB_705)) (fun _ h9 => h9) (v := .int x_675) f_x_675 dX1_seekChange_80 ?_
                              have J_691 : ∀ (x_684 : Int32) (x_685 : Int32), ((-1) ≤ (x_684).toInt ∧ (x_684).toInt ≤ 2147483647) → ((-1) ≤ (x_685).toInt ∧ (x_685).toInt ≤ 2147483647) → ∀ S_690 : dg_S, CX o S_690 → dg_sm shX [(3, 0), (3, 1), (36, 4), (36, 6), (36, 7), (36, 8), (36, 9), (36, 10), (36, 11), (36, 12), (37, 0), (37, 1), (37, 2), (37, 3), (37, 4), (37, 5), (37, 7), (43, 3), (43, 6), (43, 7), (43, 8)] [4, 5, 6, 7, 8, 9, 38, 39, 40, 41, 42] S S_690 → dg_FG S S_690 → S_690.1 221 3 = .int a1 → S_690.1 221 6 = .int x_684 → S_690.1 221 7 = .int x_685 → Z2X S_690 → Z3X o S_690 → dg_fil S_690 pt → ((F_f_seekChange_B4 x_554 x_549 o gr pt a1) (x_665, x_666, x_667, S_668) = F_f_seekChange_J5 x_665 x_684 x_685 S_690) → ∀ (H : Heap) (locs : List Loc), va_P D vwCl (dg_w g shX o rfX S_690) H → va_S A s.heap H locs → ∀ ls : Array Slot, lv_has ls 7 [(6, .int x_673), (5, .int x_665), (4, .int x_549), (0, .ref (o + 221)), (1, .ref (o + gr)), (2, .ref (o + pt)), (3, .int a1)] → W p l e ({ frames := 7, cells := 0, slots := 0, locals := 174 } : Room) s m args below meth c H locs 0 0 (MQ below (va_Qv (fun S' => CX o S' ∧ dg_sm shX [(3, 0), (3, 1), (36, 4), (36, 6), (36, 7), (36, 8), (36, 9), (36, 10), (36, 11), (36, 12), (37, 0), (37, 1), (37, 2), (37, 3), (37, 4), (37, 5), (37, 7), (43, 3), (43, 6), (43, 7), (43, 8)] [4, 5, 6, 7, 8, 9, 38, 39, 40, 41, 42] S S' ∧ Z2X S' ∧ Z3X o S' ∧ dg_FG S S' ∧ (S' = F_f_seekChange o S gr pt a1) ∧ True) (dg_B g D shX o rfX) A) args s 0 0 A) (F0 m 104 ls []) := by
                                intro x_684 x_685 b_x_684 b_x_685 S_690 I_690 M_690 G_690 ff_690_3_221 ff_690_6_221 ff_690_7_221 Z2_690 Z3_690 fl_690_0 hF_5 H locs hP hS ls hl
                                obtain ⟨x_692, ex_692⟩ : ∃ z, z = x_665 + 1 := ⟨_, rfl⟩
                                have jx_692 : (x_692).toInt = (x_665).toInt + 1 := by rw [ex_692]; exact dk_addT2 rfl (by decide +kernel) (by omega)
                                refine lv_iinc (v := x_692) (lv' := [(5, .int x_692), (6, .int x_673), (4, .int x_549), (0, .ref (o + 221)), (1, .ref (o + gr)), (2, .ref (o + pt)), (3, .int a1)]) hx hb dX1_seekChange_104 hl (k := 1) rfl (by rw [ex_692]; rfl) (dk_dq rfl) rfl (fun ls hl => ?_)
                                refine lv_goto (tgt := 55) hx hb dX1_seekChange_107 (dk_dq rfl) ?_
                                have hf_692 := dk_full x_684
                                have hf_693 := dk_full x_685
                                exact ih x_692 x_684 x_685 (by omega) (by omega) (by omega) (by first | exact mu_lt hmu (by omega) (by omega) | omega) S_690 I_690 M_690 G_690 ff_690_3_221 ff_690_6_221 ff_690_7_221 Z2_690 Z3_690 fl_690_0 (lp_l hF_4 (Eq.trans hF_5 (F_f_seekChange_p3 ex_692))) _ _ hP hS _ (lv_sub hl [0, 2, 3, 4, 5, 6] rfl)
                              refine lv_icmp_le (tgt := 104) hx hb dX1_seekChange_83 (dk_dq rfl) (fun c_695 => ?_) (fun c_695 => ?_)
                              · have hf_695 := dk_full x_673
                                have hf_696 := dk_full x_675
                                have jc_695 := dk_lec (k := (x_675).toInt) rfl c_695
                                have hf_697 := dk_full x_666
                                have hf_698 := dk_full x_667
                                exact J_691 x_666 x_667 (by omega) (by omega) S_674 I_674 M_674 (dg_FG.tr G_668 w_674_2) ((m_674.1 221 3 _ sX_221 (dk_dq rfl)).trans ff_668_3_221) ((m_674.1 221 6 _ sX_221 (dk_dq rfl)).trans ff_668_6_221) ((m_674.1 221 7 _ sX_221 (dk_dq rfl)).trans ff_668_7_221) w_674_0 w_674_1 (w_674_2 pt hk_pt fl_668_0) (F_f_seekChange_p4 c_670 w_674_3.1 w_674_3.2 (zI_eq f_x_675) c_695) _ _ hP hS _ (lv_sub hl [0, 1, 2, 3, 4, 5, 6] rfl)
                              · as_aux_lemma =>
                                  have hf_699 := dk_full x_673
                                  have hf_700 := dk_full x_675
                                  have jc_695 := dk_nlec (k := (x_675).toInt) rfl c_695
                                  refine lv_aload_n hx hb dX1_seekChange_86 rfl (lv_at hl 3 rfl) ?_
                                  refine lv_iload hx hb dX1_seekChange_87 (lv_at hl 2 rfl) ?_
                                  refine dg_put (ci := 1) (v := .int x_549) (ty := tyX1 6) (C := RX1) (T := TX1) (N := 9) hx hb hts (fun w h => bw_mem (wU_X1 w h)) tyX1 tyX1_ok nmX1 hown K hP hS hA1 sX_221 rfl 6 (dk_dq rfl) (hts _ (bw_mem wB_699)) (fun _ h9 => h9) rfl (by decide +kernel) rfl rfl dX1_seekChange_89 (fun S_702 e_702 H locs hP hS => ?_)
                                  have I_702 := dg_I.uFi (lo := (-2147483648)) (hi := 2147483647) I_674 e_702 sX_221 (by decide +kernel) (show (-2147483648) ≤ (x_549).toInt ∧ (x_549).toInt ≤ 2147483647 from (dk_full _))
                                  have M_702 := dg_sm.uF M_674 e_702 sX_221 (dk_dq rfl)
                                  refine lv_aload_n hx hb dX1_seekChange_92 rfl (lv_at hl 3 rfl) ?_
                                  refine lv_iload hx hb dX1_seekChange_93 (lv_at hl 1 rfl) ?_
                                  refine dg_put (ci := 1) (v := .int x_665) (ty := tyX1 7) (C := RX1) (T := TX1) (N := 9) hx hb hts (fun w h => bw_mem (wU_X1 w h)) tyX1 tyX1_ok nmX1 hown K hP hS hA1 sX_221 rfl 7 (dk_dq rfl) (hts _ (bw_mem wB_700)) (fun _ h9 => h9) rfl (by decide +kernel) rfl rfl dX1_seekChange_95 (fun S_703 e_703 H locs hP hS => ?_)
                                  have I_703 := dg_I.uFi (lo := (-2147483648)) (hi := 2147483647) I_702 e_703 sX_221 (by decide +kernel) (show (-2147483648) ≤ (x_665).toInt ∧ (x_665).toInt ≤ 2147483647 from (dk_full _))
                                  have M_703 := dg_sm.uF M_702 e_703 sX_221 (dk_dq rfl)
                                  refine lv_aload_n hx hb dX1_seekChange_98 rfl (lv_at hl 3 rfl) ?_
                                  refine lv_iload hx hb dX1_seekChange_99 (lv_at hl 0 rfl) ?_
                                  refine dg_put (ci := 1) (v := .int x_673) (ty := tyX1 8) (C := RX1) (T := TX1) (N := 9) hx hb hts (fun w h => bw_mem (wU_X1 w h)) tyX1 tyX1_ok nmX1 hown K hP hS hA1 sX_221 rfl 8 (dk_dq rfl) (hts _ (bw_mem wB_705)) (fun _ h9 => h9) rfl (by decide +kernel) rfl rfl dX1_seekChange_101 (fun S_704 e_704 H locs hP hS => ?_)
                                  have I_704 := dg_I.uFi (lo := (-2147483648)) (hi := 2147483647) I_703 e_704 sX_221 (by decide +kernel) (show (-2147483648) ≤ (x_673).toInt ∧ (x_673).toInt ≤ 2147483647 from (dk_full _))
                                  have M_704 := dg_sm.uF M_703 e_704 sX_221 (dk_dq rfl)
                                  have hF_6 : (F_f_seekChange_B4 x_554 x_549 o gr pt a1) (x_665, x_666, x_667, S_668) = F_f_seekChange_J6 x_665 x_549 S_704 := (F_f_seekChange_p6 c_670 w_674_3.1 w_674_3.2 (zI_eq f_x_675) c_695 e_702 e_703 e_704)
                                  have hf_704 := dk_full x_549
                                  have hf_705 := dk_full x_665
                                  exact J_691 x_549 x_665 (by omega) (by omega) S_704 I_704 M_704 (dg_FG.tr (dg_FG.tr (dg_FG.tr (dg_FG.tr G_668 w_674_2) (dg_FG.uF e_702)) (dg_FG.uF e_703)) (dg_FG.uF e_704)) (((dg_uF_ne e_704 (fun z => absurd z.2 (dk_dq rfl))).trans ((dg_uF_ne e_703 (fun z => absurd z.2 (dk_dq rfl))).trans ((dg_uF_ne e_702 (fun z => absurd z.2 (dk_dq rfl))).trans (m_674.1 221 3 _ sX_221 (dk_dq rfl))))).trans ff_668_3_221) (((dg_uF_ne e_704 (fun z => absurd z.2 (dk_dq rfl))).trans (dg_uF_ne e_703 (fun z => absurd z.2 (dk_dq rfl)))).trans (dg_uF_at e_702)) ((dg_uF_ne e_704 (fun z => absurd z.2 (dk_dq rfl))).trans (dg_uF_at e_703)) (Z2X.keep (Z2X.keep (Z2X.keep w_674_0 (dg_sm.uF (WF := [(43, 6)]) (WA := []) dg_sm.rf e_702 sX_221 (dk_dq rfl)) (dk_dq rfl) (dk_dq rfl)) (dg_sm.uF (WF := [(43, 7)]) (WA := []) dg_sm.rf e_703 sX_221 (dk_dq rfl)) (dk_dq rfl) (dk_dq rfl)) (dg_sm.uF (WF := [(43, 8)]) (WA := []) dg_sm.rf e_704 sX_221 (dk_dq rfl)) (dk_dq rfl) (dk_dq rfl)) (Z3X.keep (Z3X.keep (Z3X.keep w_674_1 (dg_sm.uF (WF := [(43, 6)]) (WA := []) dg_sm.rf e_702 sX_221 (dk_dq rfl)) (dg_FG.uF e_702) (dk_dq rfl)) (dg_sm.uF (WF := [(43, 7)]) (WA := []) dg_sm.rf e_703 sX_221 (dk_dq rfl)) (dg_FG.uF e_703) (dk_dq rfl)) (dg_sm.uF (WF := [(43, 8)]) (WA := []) dg_sm.rf e_704 sX_221 (dk_dq rfl)) (dg_FG.uF e_704) (dk_dq rfl)) ((dg_FG.tr (dg_FG.tr (dg_FG.tr w_674_2 (dg_FG.uF e_702)) (dg_FG.uF e_703)) (dg_FG.uF e_704)) pt hk_pt fl_668_0) (Eq.trans hF_6 (F_f_seekChange_p5)) _ _ hP hS _ (lv_sub hl [0, 1, 2, 3, 4, 5, 6] rfl)
                  have hf_706 := dk_full x_550
                  have hf_707 := dk_full x_551
                  exact L_669 ((17 - ((x_556 : Int32)).toInt).toNat + 1) x_556 x_550 x_551 (by omega) (by omega) (by omega) (by first | exact mu_lt hmu (by omega) (by omega) | omega) S_552 I_552 M_552 G_552 ff_552_3_221 ff_552_6_221 ff_552_7_221 Z2_552 Z3_552 fl_552_0 (F_f_seekChange_p7 (zI_eq f_x_554) c_555 ex_556) _ _ hP hS _ (lv_sub hl [0, 1, 2, 3, 4, 5] rfl)
      have hz_709 : (0 : Int32).toInt = 0 := by decide +kernel
      have hz_710 : (-1 : Int32).toInt = (-1) := by decide +kernel
      have hz_711 : (-1 : Int32).toInt = (-1) := by decide +kernel
      have hz_712 : (0 : Int32).toInt = 0 := by decide +kernel
      have hz_713 : (-1 : Int32).toInt = (-1) := by decide +kernel
      have hz_714 : (-1 : Int32).toInt = (-1) := by decide +kernel
      exact L_553 ((17 - ((0 : Int32)).toInt).toNat + 1) 0 (-1) (-1) (by decide +kernel) (by decide +kernel) (by decide +kernel) (by first | exact mu_lt hmu (by omega) (by omega) | omega) S_14 I_14 M_14 (dg_FG.tr (dg_FG.tr (dg_FG.tr (dg_FG.tr (dg_FG.uF e_5) (dg_FG.uF e_7)) (dg_FG.uF e_9)) w_13_2) (dg_FG.uF e_14)) (((dg_uF_ne e_14 (fun z => absurd z.2 (dk_dq rfl))).trans ((m_13.1 221 3 _ sX_221 (dk_dq rfl)).trans ((dg_uF_ne e_9 (fun z => absurd z.2 (dk_dq rfl))).trans (dg_uF_ne e_7 (fun z => absurd z.2 (dk_dq rfl)))))).trans (dg_uF_at e_5)) (((dg_uF_ne e_14 (fun z => absurd z.2 (dk_dq rfl))).trans ((m_13.1 221 6 _ sX_221 (dk_dq rfl)).trans (dg_uF_ne e_9 (fun z => absurd z.2 (dk_dq rfl))))).trans (dg_uF_at e_7)) (((dg_uF_ne e_14 (fun z => absurd z.2 (dk_dq rfl))).trans (m_13.1 221 7 _ sX_221 (dk_dq rfl))).trans (dg_uF_at e_9)) (Z2X.keep w_13_0 (dg_sm.uF (WF := [(43, 8)]) (WA := []) dg_sm.rf e_14 sX_221 (dk_dq rfl)) (dk_dq rfl) (dk_dq rfl)) (Z3X.keep w_13_1 (dg_sm.uF (WF := [(43, 8)]) (WA := []) dg_sm.rf e_14 sX_221 (dk_dq rfl)) (dg_FG.uF e_14) (dk_dq rfl)) ((dg_FG.tr (dg_FG.tr (dg_FG.tr (dg_FG.tr (dg_FG.uF e_5) (dg_FG.uF e_7)) (dg_FG.uF e_9)) w_13_2) (dg_FG.uF e_14)) pt hk_pt hf_pt) (Eq.trans hF_1 (F_f_seekChange_p8 e_14)) _ _ hP hS _ (lv_sub hl [0, 1, 2, 3, 4] rfl)
  · have hf_714 := dk_full x_1
    have hf_715 := dk_full a1
    have jc_2 := dk_eqc (k := (a1).toInt) rfl c_2
    refine W.widen (k := 0) (n := 0) (Nat.le_of_ble_eq_true rfl) (Nat.le_of_ble_eq_true rfl) ?_
    exact dg_vret hx hb hr hlocks hP hS ⟨I, M_0, Z2, Z3, dg_FG.rf, (Eq.symm (F_f_seekChange_p10 (zI_eq f_x_1) c_2)), trivial⟩ dX1_seekChange_8
noncomputable def F_f_openBehind_J1 (o : Nat) (S_6 : dg_S) (a2 : Int32) : dg_S × Int32 := let x_7 : Int32 := F_p_isOpen o S_6 222 a2; (if x_7 = (0 : Int32) then (S_6, (0 : Int32)) else (S_6, (1 : Int32)))
noncomputable def F_f_openBehind (o : Nat) (S : dg_S) (gr : Nat) (pt : Nat) (a1 : Int32) (a2 : Int32) : dg_S × Int32 := let S_1 : dg_S := F_p_copy o S 222 pt; let x_2 : Int32 := zI S gr 3; let S_3 : dg_S := F_w_enter o S_1 gr 222 x_2; let S_5 : dg_S := (F_w_closeCell o S_3 a1).1; let x_4 : Int32 := (F_w_closeCell o S_3 a1).2; let S_6 : dg_S := F_w_pass o S_5 (1 : Int32); (F_f_openBehind_J1 o S_6 a2)
theorem F_f_openBehind_p0 {o : Nat} {S_6 : dg_S} {a2 : Int32} {x_7 : Int32} (h0 : x_7 = F_p_isOpen o S_6 222 a2) (h1 : x_7 = (0 : Int32)) : F_f_openBehind_J1 o S_6 a2 = (S_6, (0 : Int32)) := by
  replace h0 := Eq.symm h0
  subst h0
  exact (Eq.trans (if_pos h1) rfl)
theorem F_f_openBehind_p1 {o : Nat} {S_6 : dg_S} {a2 : Int32} {x_7 : Int32} (h0 : x_7 = F_p_isOpen o S_6 222 a2) (h1 : ¬ (x_7 = (0 : Int32))) : F_f_openBehind_J1 o S_6 a2 = (S_6, (1 : Int32)) := by
  replace h0 := Eq.symm h0
  subst h0
  exact (Eq.trans (if_neg h1) rfl)
theorem F_f_openBehind_p2 {o : Nat} {S : dg_S} {gr : Nat} {pt : Nat} {a1 : Int32} {a2 : Int32} {S_6 : dg_S} {S_1 : dg_S} {x_2 : Int32} {S_3 : dg_S} {S_5 : dg_S} (h0 : S_1 = F_p_copy o S 222 pt) (h1 : x_2 = zI S gr 3) (h2 : S_3 = F_w_enter o S_1 gr 222 x_2) (h3 : S_5 = (F_w_closeCell o S_3 a1).1) (h4 : S_6 = F_w_pass o S_5 (1 : Int32)) : F_f_openBehind o S gr pt a1 a2 = F_f_openBehind_J1 o S_6 a2 := by
  replace h0 := Eq.symm h0
  subst h0
  replace h1 := Eq.symm h1
  subst h1
  replace h2 := Eq.symm h2
  subst h2
  replace h3 := Eq.symm h3
  subst h3
  replace h4 := Eq.symm h4
  subst h4
  exact rfl
set_option maxHeartbeats 8000000 in
set_option maxRecDepth 100000 in
theorem c_f_openBehind (l : Launch) (g : Nat → ClassId) (D : va_G) (o : Nat) (S : dg_S) (gr : Nat) (hk_gr : rX gr) (pt : Nat) (hk_pt : pX pt) (a1 : Int32) (b_a1 : (-1) ≤ (a1).toInt ∧ (a1).toInt ≤ 63) (a2 : Int32) (b_a2 : 0 ≤ (a2).toInt ∧ (a2).toInt ≤ 63) (hf_pt : dg_fil S pt) (Z2 : Z2X S) (Z3 : Z3X o S) (I : CX o S) (sz : Nat) : Met l yX1_openBehind (bw yX1_openBehind cX1_openBehind 5 (some .int)) ({ frames := 6, cells := 0, slots := 0, locals := 149 } : Room) (dk_Pc g D (dg_w g shX o rfX S) sz [.ref (o + 221), .ref (o + gr), .ref (o + pt), .int a1, .int a2]) (va_Qi (fun (r : Int32) S' => CX o S' ∧ dg_sm shX [(3, 0), (3, 1), (36, 4), (36, 6), (36, 7), (36, 8), (36, 9), (36, 10), (36, 11), (36, 12), (37, 0), (37, 1), (37, 2), (37, 3), (37, 4), (37, 5), (37, 7)] [4, 5, 6, 7, 8, 9, 38, 39, 40, 41, 42] S S' ∧ (0 ≤ (r).toInt ∧ (r).toInt ≤ 1) ∧ Z2X S' ∧ Z3X o S' ∧ dg_FG S S' ∧ (S' = (F_f_openBehind o S gr pt a1 a2).1 ∧ r = (F_f_openBehind o S gr pt a1 a2).2) ∧ True) (dg_B g D shX o rfX) (dg_A o shX.length sz)) 0 0 (dg_A o shX.length sz) := by
  refine dg_met (cc := cX1_openBehind) (maxL := 5) (ret := (some .int)) (dk_dq rfl) rfl (Nat.le_of_ble_eq_true rfl) ?_
  intro p e s m args below meth c A hAe harg hx hb hr hml hts hown hlocks hin hP K hS hA1 hA ST hsz ls hl
  rw [← hAe]
  have F : CallFix p m c cX1_openBehind 5 s args (bw yX1_openBehind cX1_openBehind 5 (some .int)) RX1 := ⟨hx, hb, hml, hown, hts⟩
  have hl : lv_has ls 5 [(0, .ref (o + 221)), (1, .ref (o + gr)), (2, .ref (o + pt)), (3, .int a1), (4, .int a2)] := hl
  have M_0 : dg_sm shX [(3, 0), (3, 1), (36, 4), (36, 6), (36, 7), (36, 8), (36, 9), (36, 10), (36, 11), (36, 12), (37, 0), (37, 1), (37, 2), (37, 3), (37, 4), (37, 5), (37, 7)] [4, 5, 6, 7, 8, 9, 38, 39, 40, 41, 42] S S := dg_sm.rf
  refine lv_aload_n hx hb dX1_openBehind_0 rfl (lv_at hl 0 rfl) ?_
  refine dg_get (C := RX1) (T := TX1) (N := 9) hx hb hts (fun w h => bw_mem (wU_X1 w h)) hown K hP sX_221 rfl 1 (dk_dq rfl) (hts _ (bw_mem wB_669)) (fun _ h9 => h9) (v := .ref (o + 222)) (show S.1 221 1 = .ref (o + 222) from dg_I.rel (d := 1) I sX_221 (by decide +kernel)) dX1_openBehind_1 ?_
  refine lv_aload_n hx hb dX1_openBehind_4 rfl (lv_at hl 2 rfl) ?_
  refine dg_callv hS hA1 hA (va_runV (As := [.ref (o + pt)]) (rest := []) F (c_p_copy l g D o S 222 (by unfold pX; decide : pX 222) pt hk_pt hf_pt I s.heap.size) (cwV 1 hts (bw_V wB_670 wB_662 wB_663 wB_493 wB_660) rfl rfl rfl (by decide +kernel) ⟨Nat.le_of_ble_eq_true rfl, Nat.le_of_ble_eq_true rfl⟩) (dg_preV (pX_0 222 (dk_dq rfl)) rfl K ST hP hS hA1 hA) rfl rfl hl.1 rfl (lv_room (Nat.le_of_ble_eq_true rfl)) dX1_openBehind_5 ⟨Nat.le_of_ble_eq_true rfl, Nat.le_of_ble_eq_true rfl⟩) (fun S_1 hw_1 H locs hP hS => ?_)
  obtain ⟨I_1, m_1, w_1_0, w_1_1, w_1_2, -⟩ := hw_1
  have M_1 := dg_sm.tr M_0 m_1 (dk_dq rfl) (dk_dq rfl)
  refine lv_aload_n hx hb dX1_openBehind_8 rfl (lv_at hl 0 rfl) ?_
  refine dg_get (C := RX1) (T := TX1) (N := 9) hx hb hts (fun w h => bw_mem (wU_X1 w h)) hown K hP sX_221 rfl 0 (dk_dq rfl) (hts _ (bw_mem wB_672)) (fun _ h9 => h9) (v := .ref (o + 214)) (show S_1.1 221 0 = .ref (o + 214) from dg_I.abs (d := 214) I_1 sX_221 (by decide +kernel)) dX1_openBehind_9 ?_
  refine lv_aload_n hx hb dX1_openBehind_12 rfl (lv_at hl 1 rfl) ?_
  refine lv_aload_n hx hb dX1_openBehind_13 rfl (lv_at hl 0 rfl) ?_
  refine dg_get (C := RX1) (T := TX1) (N := 9) hx hb hts (fun w h => bw_mem (wU_X1 w h)) hown K hP sX_221 rfl 1 (dk_dq rfl) (hts _ (bw_mem wB_669)) (fun _ h9 => h9) (v := .ref (o + 222)) (show S_1.1 221 1 = .ref (o + 222) from dg_I.rel (d := 1) I_1 sX_221 (by decide +kernel)) dX1_openBehind_14 ?_
  refine lv_aload_n hx hb dX1_openBehind_17 rfl (lv_at hl 1 rfl) ?_
  obtain ⟨x_2, f_x_2, b_x_2⟩ := dg_I.int (i := gr) (k := 3) (lo := (-2147483648)) (hi := 2147483647) I (rX_0 gr hk_gr) (by decide +kernel)
  refine dg_get (C := RX2) (T := TX2) (N := 19) hx hb hts (fun w h => bw_mem (wU_X2 w h)) hown K hP (rX_0 gr hk_gr) rfl 3 (dk_dq rfl) (hts _ (bw_mem wB_673)) (fun _ h9 => h9) (v := .int x_2) ((m_1.1 gr 3 _ (rX_0 gr hk_gr) (dk_dq rfl)).trans f_x_2) dX1_openBehind_18 ?_
  refine dg_callv hS hA1 hA (va_runV (As := [.ref (o + gr), .ref (o + 222), .int x_2]) (rest := []) F (c_w_enter l g D o S_1 gr hk_gr 222 (by unfold pX; decide : pX 222) x_2 w_1_0 I_1 H.size) (cwV 3 hts (bw_V wB_675 wB_676 wB_677 wB_594 wB_674) rfl rfl rfl (by decide +kernel) ⟨Nat.le_of_ble_eq_true rfl, Nat.le_of_ble_eq_true rfl⟩) (dg_preV sX_214 rfl K ST hP hS hA1 hA) rfl rfl hl.1 rfl (lv_room (Nat.le_of_ble_eq_true rfl)) dX1_openBehind_21 ⟨Nat.le_of_ble_eq_true rfl, Nat.le_of_ble_eq_true rfl⟩) (fun S_3 hw_3 H locs hP hS => ?_)
  obtain ⟨I_3, m_3, w_3_0, w_3_1, -⟩ := hw_3
  have M_3 := dg_sm.tr M_1 m_3 (dk_dq rfl) (dk_dq rfl)
  refine lv_aload_n hx hb dX1_openBehind_24 rfl (lv_at hl 0 rfl) ?_
  refine dg_get (C := RX1) (T := TX1) (N := 9) hx hb hts (fun w h => bw_mem (wU_X1 w h)) hown K hP sX_221 rfl 0 (dk_dq rfl) (hts _ (bw_mem wB_672)) (fun _ h9 => h9) (v := .ref (o + 214)) (show S_3.1 221 0 = .ref (o + 214) from dg_I.abs (d := 214) I_3 sX_221 (by decide +kernel)) dX1_openBehind_25 ?_
  refine lv_iload_n hx hb dX1_openBehind_28 rfl (lv_at hl 3 rfl) ?_
  refine dg_calli hS hA1 hA (va_runV (As := [.int a1]) (rest := []) F (c_w_closeCell l g D o S_3 a1 (by omega) I_3 H.size) (cwV 1 hts (bw_V wB_708 wB_709 wB_710 wB_594 wB_707) rfl rfl rfl (by decide +kernel) ⟨Nat.le_of_ble_eq_true rfl, Nat.le_of_ble_eq_true rfl⟩) (dg_preV sX_214 rfl K ST hP hS hA1 hA) rfl rfl hl.1 rfl (lv_room (Nat.le_of_ble_eq_true rfl)) dX1_openBehind_29 ⟨Nat.le_of_ble_eq_true rfl, Nat.le_of_ble_eq_true rfl⟩) (fun x_4 S_5 hw_5 H locs hP hS => ?_)
  obtain ⟨I_5, m_5, w_5_0, w_5_1, w_5_2, -⟩ := hw_5
  have M_5 := dg_sm.tr M_3 m_5 (dk_dq rfl) (dk_dq rfl)
  have w_5_0 : 0 ≤ (x_4).toInt ∧ (x_4).toInt ≤ 1 := w_5_0
  refine lv_pop hx hb dX1_openBehind_32 rfl ?_
  refine lv_aload_n hx hb dX1_openBehind_33 rfl (lv_at hl 0 rfl) ?_
  refine dg_get (C := RX1) (T := TX1) (N := 9) hx hb hts (fun w h => bw_mem (wU_X1 w h)) hown K hP sX_221 rfl 0 (dk_dq rfl) (hts _ (bw_mem wB_672)) (fun _ h9 => h9) (v := .ref (o + 214)) (show S_5.1 221 0 = .ref (o + 214) from dg_I.abs (d := 214) I_5 sX_221 (by decide +kernel)) dX1_openBehind_34 ?_
  refine lv_iconst (v := 1) hx hb dX1_openBehind_37 (by decide +kernel) ?_
  refine dg_callv hS hA1 hA (va_runV (As := [.int 1]) (rest := []) F (c_w_pass l g D o S_5 1 (Z2X.keep (Z2X.keep (Z2X.keep Z2 m_1 (dk_dq rfl) (dk_dq rfl)) m_3 (dk_dq rfl) (dk_dq rfl)) m_5 (dk_dq rfl) (dk_dq rfl)) (Z3X.keep w_3_0 m_5 w_5_1 (dk_dq rfl)) I_5 H.size) (cwV 1 hts (bw_V wB_679 wB_680 wB_681 wB_594 wB_678) rfl rfl rfl (by decide +kernel) ⟨Nat.le_of_ble_eq_true rfl, Nat.le_of_ble_eq_true rfl⟩) (dg_preV sX_214 rfl K ST hP hS hA1 hA) rfl rfl hl.1 rfl (lv_room (Nat.le_of_ble_eq_true rfl)) dX1_openBehind_38 ⟨Nat.le_of_ble_eq_true rfl, Nat.le_of_ble_eq_true rfl⟩) (fun S_6 hw_6 H locs hP hS => ?_)
  obtain ⟨I_6, m_6, w_6_0, w_6_1, w_6_2, w_6_3, -⟩ := hw_6
  have M_6 := dg_sm.tr M_5 m_6 (dk_dq rfl) (dk_dq rfl)
  have hF_1 : F_f_openBehind o S gr pt a1 a2 = F_f_openBehind_J1 o S_6 a2 := (F_f_openBehind_p2 w_1_2 (zI_eq f_x_2) w_3_1 w_5_2.1 w_6_3)
  refine lv_aload_n hx hb dX1_openBehind_41 rfl (lv_at hl 0 rfl) ?_
  refine dg_get (C := RX1) (T := TX1) (N := 9) hx hb hts (fun w h => bw_mem (wU_X1 w h)) hown K hP sX_221 rfl 1 (dk_dq rfl) (hts _ (bw_mem wB_669)) (fun _ h9 => h9) (v := .ref (o + 222)) (show S_6.1 221 1 = .ref (o + 222) from dg_I.rel (d := 1) I_6 sX_221 (by decide +kernel)) dX1_openBehind_42 ?_
  as_aux_lemma =>
    refine lv_iload hx hb dX1_openBehind_45 (lv_at hl 4 rfl) ?_
    refine dg_calli hS hA1 hA (va_runV (As := [.int a2]) (rest := []) F (c_p_isOpen l g D o S_6 222 (by unfold pX; decide : pX 222) a2 (by omega) I_6 H.size) (cwV 1 hts (bw_V wB_711 wB_496 wB_497 wB_493 wB_494) rfl rfl rfl (by decide +kernel) ⟨Nat.le_of_ble_eq_true rfl, Nat.le_of_ble_eq_true rfl⟩) (dg_preV (pX_0 222 (dk_dq rfl)) rfl K ST hP hS hA1 hA) rfl rfl hl.1 rfl (lv_room (Nat.le_of_ble_eq_true rfl)) dX1_openBehind_47 ⟨Nat.le_of_ble_eq_true rfl, Nat.le_of_ble_eq_true rfl⟩) (fun x_7 S_8 hw_8 H locs hP hS => ?_)
    rw [hw_8.1] at hP
    obtain ⟨hq_8, w_8_0, w_8_1, w_8_2, -⟩ := hw_8
    have w_8_0 : 0 ≤ (x_7).toInt ∧ (x_7).toInt ≤ 1 := w_8_0
    have w_8_1 : (x_7).toInt = 1 → (8 ≤ (a2).toInt ∧ (a2).toInt ≤ 63) := w_8_1
    refine lv_if_eq (tgt := 57) hx hb dX1_openBehind_50 (dk_dq rfl) (fun c_9 => ?_) (fun c_9 => ?_)
    · have jc_9 := dk_eqc (k := 0) (by decide +kernel) c_9
      refine lv_iconst (v := 0) hx hb dX1_openBehind_57 (by decide +kernel) ?_
      have hz_10 : (0 : Int32).toInt = 0 := by decide +kernel
      refine W.widen (k := 0) (n := 0) (Nat.le_of_ble_eq_true rfl) (Nat.le_of_ble_eq_true rfl) ?_
      exact dg_iret hx hb hr hlocks rfl hP hS ⟨I_6, M_6, (by decide +kernel), w_6_0, w_6_1, (dg_FG.tr (dg_FG.tr (dg_FG.tr w_1_1 (dg_FG.sm m_3 (dk_dq rfl))) w_5_1) w_6_2), ⟨congrArg Prod.fst (Eq.symm (Eq.trans hF_1 (F_f_openBehind_p0 w_8_2 c_9))), congrArg Prod.snd (Eq.symm (Eq.trans hF_1 (F_f_openBehind_p0 w_8_2 c_9)))⟩, trivial⟩ dX1_openBehind_58
    · have jc_9 := dk_neqc (k := 0) (by decide +kernel) c_9
      refine lv_iconst (v := 1) hx hb dX1_openBehind_53 (by decide +kernel) ?_
      refine lv_goto (tgt := 58) hx hb dX1_openBehind_54 (dk_dq rfl) ?_
      have hz_11 : (1 : Int32).toInt = 1 := by decide +kernel
      refine W.widen (k := 0) (n := 0) (Nat.le_of_ble_eq_true rfl) (Nat.le_of_ble_eq_true rfl) ?_
      exact dg_iret hx hb hr hlocks rfl hP hS ⟨I_6, M_6, (by decide +kernel), w_6_0, w_6_1, (dg_FG.tr (dg_FG.tr (dg_FG.tr w_1_1 (dg_FG.sm m_3 (dk_dq rfl))) w_5_1) w_6_2), ⟨congrArg Prod.fst (Eq.symm (Eq.trans hF_1 (F_f_openBehind_p1 w_8_2 c_9))), congrArg Prod.snd (Eq.symm (Eq.trans hF_1 (F_f_openBehind_p1 w_8_2 c_9)))⟩, trivial⟩ dX1_openBehind_58
noncomputable def F_f_oddsOf_J2 (x_118 : Int32) (x_137 : Int32) (S_140 : dg_S) : (Int32 × Int32 × dg_S) ⊕ (dg_S × Int32) := let x_142 : Int32 := x_118 + 1; (Sum.inl (x_142, x_137, S_140))
noncomputable def F_f_oddsOf_J3 (x_149 : Int32) (x_8 : Int32) (x_119 : Int32) (x_118 : Int32) (S_153 : dg_S) : (Int32 × Int32 × dg_S) ⊕ (dg_S × Int32) := let x_155 : Int32 := x_149 * x_8; let x_156 : Int32 := x_119 + x_155; (F_f_oddsOf_J2 x_118 x_156 S_153)
noncomputable def F_f_oddsOf_B1 (o : Nat) (gr : Nat) (pt : Nat) (x_5 : Int32) (x_8 : Int32) (a1 : Int32) : (Int32 × Int32 × dg_S) → (Int32 × Int32 × dg_S) ⊕ (dg_S × Int32) := fun w9 => match w9 with | (x_118, x_119, S_120) => let x_122 : Int32 := F_g_endOfPlaces o S_120 gr; (if x_122 ≤ x_118 then (Sum.inr ((S_120, x_119))) else let x_126 : Int32 := S_120.2.1 (pt + 1) (x_118 : Int32).toNatClampNeg; (if x_126 = (100 : Int32) then (F_f_oddsOf_J2 x_118 x_119 S_120) else let x_144 : Int32 := F_p_isOpen o S_120 pt x_118; (if x_144 = (0 : Int32) then (F_f_oddsOf_J3 x_5 x_8 x_119 x_118 S_120) else let S_159 : dg_S := (F_f_openBehind o S_120 gr pt x_118 a1).1; let x_158 : Int32 := (F_f_openBehind o S_120 gr pt x_118 a1).2; (F_f_oddsOf_J3 x_158 x_8 x_119 x_118 S_159))))
noncomputable def F_f_oddsOf (o : Nat) (S : dg_S) (gr : Nat) (pt : Nat) (a1 : Int32) : dg_S × Int32 := let x_1 : Int32 := zI S gr 0; let x_2 : Int32 := zI S gr 1; let x_3 : Int32 := x_1 * x_2; let S_6 : dg_S := (F_f_openBehind o S gr pt (-1 : Int32) a1).1; let x_5 : Int32 := (F_f_openBehind o S gr pt (-1 : Int32) a1).2; let x_7 : Int32 := x_5 * x_3; let x_8 : Int32 := zI S gr 4; let x_9 : Int32 := (100 : Int32) - x_8; let x_10 : Int32 := x_7 * x_9; (lp (F_f_oddsOf_B1 o gr pt x_5 x_8 a1) (S, (0 : Int32)) ((65 - ((8 : Int32)).toInt).toNat + 1) ((8 : Int32), x_10, S_6))
theorem F_f_oddsOf_p0 {o : Nat} {gr : Nat} {pt : Nat} {x_5 : Int32} {x_8 : Int32} {a1 : Int32} {x_118 : Int32} {x_119 : Int32} {S_120 : dg_S} {x_122 : Int32} (h0 : x_122 = F_g_endOfPlaces o S_120 gr) (h1 : x_122 ≤ x_118) : (F_f_oddsOf_B1 o gr pt x_5 x_8 a1) (x_118, x_119, S_120) = Sum.inr ((S_120, x_119)) := by
  replace h0 := Eq.symm h0
  subst h0
  exact (Eq.trans (if_pos h1) rfl)
theorem F_f_oddsOf_p1 {x_118 : Int32} {x_137 : Int32} {S_140 : dg_S} {x_142 : Int32} (h0 : x_142 = x_118 + 1) : F_f_oddsOf_J2 x_118 x_137 S_140 = Sum.inl (x_142, x_137, S_140) := by
  replace h0 := Eq.symm h0
  subst h0
  exact rfl
theorem F_f_oddsOf_p2 {o : Nat} {gr : Nat} {pt : Nat} {x_5 : Int32} {x_8 : Int32} {a1 : Int32} {x_118 : Int32} {x_119 : Int32} {S_120 : dg_S} {x_122 : Int32} {x_126 : Int32} (h0 : x_122 = F_g_endOfPlaces o S_120 gr) (h1 : ¬ (x_122 ≤ x_118)) (h2 : x_126 = S_120.2.1 (pt + 1) (x_118 : Int32).toNatClampNeg) (h3 : x_126 = (100 : Int32)) : (F_f_oddsOf_B1 o gr pt x_5 x_8 a1) (x_118, x_119, S_120) = F_f_oddsOf_J2 x_118 x_119 S_120 := by
  replace h0 := Eq.symm h0
  subst h0
  replace h2 := Eq.symm h2
  subst h2
  exact (Eq.trans (if_neg h1) (Eq.trans (if_pos h3) rfl))
theorem F_f_oddsOf_p3 {x_149 : Int32} {x_8 : Int32} {x_119 : Int32} {x_118 : Int32} {S_153 : dg_S} {x_156 : Int32} {x_155 : Int32} (h0 : x_155 = x_149 * x_8) (h1 : x_156 = x_119 + x_155) : F_f_oddsOf_J3 x_149 x_8 x_119 x_118 S_153 = F_f_oddsOf_J2 x_118 x_156 S_153 := by
  replace h0 := Eq.symm h0
  subst h0
  replace h1 := Eq.symm h1
  subst h1
  exact rfl
theorem F_f_oddsOf_p4 {o : Nat} {gr : Nat} {pt : Nat} {x_5 : Int32} {x_8 : Int32} {a1 : Int32} {x_118 : Int32} {x_119 : Int32} {S_120 : dg_S} {x_122 : Int32} {x_126 : Int32} {x_144 : Int32} (h0 : x_122 = F_g_endOfPlaces o S_120 gr) (h1 : ¬ (x_122 ≤ x_118)) (h2 : x_126 = S_120.2.1 (pt + 1) (x_118 : Int32).toNatClampNeg) (h3 : ¬ (x_126 = (100 : Int32))) (h4 : x_144 = F_p_isOpen o S_120 pt x_118) (h5 : x_144 = (0 : Int32)) : (F_f_oddsOf_B1 o gr pt x_5 x_8 a1) (x_118, x_119, S_120) = F_f_oddsOf_J3 x_5 x_8 x_119 x_118 S_120 := by
  replace h0 := Eq.symm h0
  subst h0
  replace h2 := Eq.symm h2
  subst h2
  replace h4 := Eq.symm h4
  subst h4
  exact (Eq.trans (if_neg h1) (Eq.trans (if_neg h3) (Eq.trans (if_pos h5) rfl)))
theorem F_f_oddsOf_p5 {o : Nat} {gr : Nat} {pt : Nat} {x_5 : Int32} {x_8 : Int32} {a1 : Int32} {x_118 : Int32} {x_119 : Int32} {S_120 : dg_S} {x_158 : Int32} {S_159 : dg_S} {x_122 : Int32} {x_126 : Int32} {x_144 : Int32} (h0 : x_122 = F_g_endOfPlaces o S_120 gr) (h1 : ¬ (x_122 ≤ x_118)) (h2 : x_126 = S_120.2.1 (pt + 1) (x_118 : Int32).toNatClampNeg) (h3 : ¬ (x_126 = (100 : Int32))) (h4 : x_144 = F_p_isOpen o S_120 pt x_118) (h5 : ¬ (x_144 = (0 : Int32))) (h6 : S_159 = (F_f_openBehind o S_120 gr pt x_118 a1).1) (h7 : x_158 = (F_f_openBehind o S_120 gr pt x_118 a1).2) : (F_f_oddsOf_B1 o gr pt x_5 x_8 a1) (x_118, x_119, S_120) = F_f_oddsOf_J3 x_158 x_8 x_119 x_118 S_159 := by
  replace h0 := Eq.symm h0
  subst h0
  replace h2 := Eq.symm h2
  subst h2
  replace h4 := Eq.symm h4
  subst h4
  replace h6 := Eq.symm h6
  subst h6
  replace h7 := Eq.symm h7
  subst h7
  exact (Eq.trans (if_neg h1) (Eq.trans (if_neg h3) (Eq.trans (if_neg h5) rfl)))
theorem F_f_oddsOf_p6 {o : Nat} {S : dg_S} {gr : Nat} {pt : Nat} {a1 : Int32} {x_5 : Int32} {x_8 : Int32} {x_10 : Int32} {S_6 : dg_S} {x_1 : Int32} {x_2 : Int32} {x_3 : Int32} {x_7 : Int32} {x_9 : Int32} (h0 : x_1 = zI S gr 0) (h1 : x_2 = zI S gr 1) (h2 : x_3 = x_1 * x_2) (h3 : S_6 = (F_f_openBehind o S gr pt (-1 : Int32) a1).1) (h4 : x_5 = (F_f_openBehind o S gr pt (-1 : Int32) a1).2) (h5 : x_7 = x_5 * x_3) (h6 : x_8 = zI S gr 4) (h7 : x_9 = (100 : Int32) - x_8) (h8 : x_10 = x_7 * x_9) : F_f_oddsOf o S gr pt a1 = lp (F_f_oddsOf_B1 o gr pt x_5 x_8 a1) (S, (0 : Int32)) ((65 - ((8 : Int32)).toInt).toNat + 1) ((8 : Int32), x_10, S_6) := by
  replace h0 := Eq.symm h0
  subst h0
  replace h1 := Eq.symm h1
  subst h1
  replace h2 := Eq.symm h2
  subst h2
  replace h3 := Eq.symm h3
  subst h3
  replace h4 := Eq.symm h4
  subst h4
  replace h5 := Eq.symm h5
  subst h5
  replace h6 := Eq.symm h6
  subst h6
  replace h7 := Eq.symm h7
  subst h7
  replace h8 := Eq.symm h8
  subst h8
  exact rfl
set_option maxHeartbeats 8000000 in
set_option maxRecDepth 100000 in
theorem c_f_oddsOf (l : Launch) (g : Nat → ClassId) (D : va_G) (o : Nat) (S : dg_S) (gr : Nat) (hk_gr : rX gr) (pt : Nat) (hk_pt : pX pt) (a1 : Int32) (b_a1 : 0 ≤ (a1).toInt ∧ (a1).toInt ≤ 63) (hf_pt : dg_fil S pt) (Z2 : Z2X S) (Z3 : Z3X o S) (I : CX o S) (sz : Nat) : Met l yX1_oddsOf (bw yX1_oddsOf cX1_oddsOf 9 (some .int)) ({ frames := 7, cells := 0, slots := 0, locals := 173 } : Room) (dk_Pc g D (dg_w g shX o rfX S) sz [.ref (o + 221), .ref (o + gr), .ref (o + pt), .int a1]) (va_Qi (fun (r : Int32) S' => CX o S' ∧ dg_sm shX [(3, 0), (3, 1), (36, 4), (36, 6), (36, 7), (36, 8), (36, 9), (36, 10), (36, 11), (36, 12), (37, 0), (37, 1), (37, 2), (37, 3), (37, 4), (37, 5), (37, 7)] [4, 5, 6, 7, 8, 9, 38, 39, 40, 41, 42] S S' ∧ Z2X S' ∧ Z3X o S' ∧ dg_FG S S' ∧ (S' = (F_f_oddsOf o S gr pt a1).1 ∧ r = (F_f_oddsOf o S gr pt a1).2) ∧ True) (dg_B g D shX o rfX) (dg_A o shX.length sz)) 0 0 (dg_A o shX.length sz) := by
  refine dg_met (cc := cX1_oddsOf) (maxL := 9) (ret := (some .int)) (dk_dq rfl) rfl (Nat.le_of_ble_eq_true rfl) ?_
  intro p e s m args below meth c A hAe harg hx hb hr hml hts hown hlocks hin hP K hS hA1 hA ST hsz ls hl
  rw [← hAe]
  have F : CallFix p m c cX1_oddsOf 9 s args (bw yX1_oddsOf cX1_oddsOf 9 (some .int)) RX1 := ⟨hx, hb, hml, hown, hts⟩
  have hl : lv_has ls 9 [(0, .ref (o + 221)), (1, .ref (o + gr)), (2, .ref (o + pt)), (3, .int a1)] := hl
  have M_0 : dg_sm shX [(3, 0), (3, 1), (36, 4), (36, 6), (36, 7), (36, 8), (36, 9), (36, 10), (36, 11), (36, 12), (37, 0), (37, 1), (37, 2), (37, 3), (37, 4), (37, 5), (37, 7)] [4, 5, 6, 7, 8, 9, 38, 39, 40, 41, 42] S S := dg_sm.rf
  refine lv_aload_n hx hb dX1_oddsOf_0 rfl (lv_at hl 1 rfl) ?_
  obtain ⟨x_1, f_x_1, b_x_1⟩ := dg_I.int (i := gr) (k := 0) (lo := 0) (hi := 7) I (rX_0 gr hk_gr) (by decide +kernel)
  refine dg_get (C := RX2) (T := TX2) (N := 19) hx hb hts (fun w h => bw_mem (wU_X2 w h)) hown K hP (rX_0 gr hk_gr) rfl 0 (dk_dq rfl) (hts _ (bw_mem wB_712)) (fun _ h9 => h9) (v := .int x_1) f_x_1 dX1_oddsOf_1 ?_
  refine lv_aload_n hx hb dX1_oddsOf_4 rfl (lv_at hl 1 rfl) ?_
  obtain ⟨x_2, f_x_2, b_x_2⟩ := dg_I.int (i := gr) (k := 1) (lo := 0) (hi := 7) I (rX_0 gr hk_gr) (by decide +kernel)
  refine dg_get (C := RX2) (T := TX2) (N := 19) hx hb hts (fun w h => bw_mem (wU_X2 w h)) hown K hP (rX_0 gr hk_gr) rfl 1 (dk_dq rfl) (hts _ (bw_mem wB_713)) (fun _ h9 => h9) (v := .int x_2) f_x_2 dX1_oddsOf_5 ?_
  refine lv_imul hx hb dX1_oddsOf_8 ?_
  refine lv_topi (fun x_3 ex_3 => ?_)
  have jx_3 := dk_mulB (x := x_1) (y := x_2) (A := 7) (B := 7) (by omega) (by omega) (dk_dq rfl)
  rw [← ex_3] at jx_3
  refine lv_istore (lv' := [(4, .int x_3), (0, .ref (o + 221)), (1, .ref (o + gr)), (2, .ref (o + pt)), (3, .int a1)]) hx hb dX1_oddsOf_9 hl (dk_dq rfl) rfl (fun ls hl => ?_)
  refine lv_aload_n hx hb dX1_oddsOf_11 rfl (lv_at hl 1 rfl) ?_
  refine lv_aload_n hx hb dX1_oddsOf_12 rfl (lv_at hl 2 rfl) ?_
  refine lv_aload_n hx hb dX1_oddsOf_13 rfl (lv_at hl 3 rfl) ?_
  refine lv_iconst (v := (-1)) hx hb dX1_oddsOf_14 (by decide +kernel) ?_
  refine lv_iload_n hx hb dX1_oddsOf_15 rfl (lv_at hl 4 rfl) ?_
  have hz_4 : (-1 : Int32).toInt = (-1) := by decide +kernel
  refine dg_calli hS hA1 hA (va_runV (As := [.ref (o + gr), .ref (o + pt), .int (-1), .int a1]) (rest := []) F (c_f_openBehind l g D o S gr hk_gr pt hk_pt (-1) (by decide +kernel) a1 (by omega) hf_pt Z2 Z3 I s.heap.size) (cwV 4 hts (bw_V wB_715 wB_716 wB_717 wB_693 wB_714) rfl rfl rfl (by decide +kernel) ⟨Nat.le_of_ble_eq_true rfl, Nat.le_of_ble_eq_true rfl⟩) (dg_preV sX_221 rfl K ST hP hS hA1 hA) rfl rfl hl.1 rfl (lv_room (Nat.le_of_ble_eq_true rfl)) dX1_oddsOf_16 ⟨Nat.le_of_ble_eq_true rfl, Nat.le_of_ble_eq_true rfl⟩) (fun x_5 S_6 hw_6 H locs hP hS => ?_)
  obtain ⟨I_6, m_6, w_6_0, w_6_1, w_6_2, w_6_3, w_6_4, -⟩ := hw_6
  have M_6 := dg_sm.tr M_0 m_6 (dk_dq rfl) (dk_dq rfl)
  have w_6_0 : 0 ≤ (x_5).toInt ∧ (x_5).toInt ≤ 1 := w_6_0
  refine lv_istore (lv' := [(5, .int x_5), (4, .int x_3), (0, .ref (o + 221)), (1, .ref (o + gr)), (2, .ref (o + pt)), (3, .int a1)]) hx hb dX1_oddsOf_19 hl (dk_dq rfl) rfl (fun ls hl => ?_)
  refine lv_iload hx hb dX1_oddsOf_21 (lv_at hl 0 rfl) ?_
  refine lv_iload hx hb dX1_oddsOf_23 (lv_at hl 1 rfl) ?_
  refine lv_imul hx hb dX1_oddsOf_25 ?_
  refine lv_topi (fun x_7 ex_7 => ?_)
  have jx_7 := dk_mulB (x := x_5) (y := x_3) (A := 1) (B := 49) (by omega) (by omega) (dk_dq rfl)
  rw [← ex_7] at jx_7
  refine lv_bipush (v := 100) hx hb dX1_oddsOf_26 (by decide +kernel) ?_
  refine lv_aload_n hx hb dX1_oddsOf_28 rfl (lv_at hl 3 rfl) ?_
  obtain ⟨x_8, f_x_8, b_x_8⟩ := dg_I.int (i := gr) (k := 4) (lo := (-2147483648)) (hi := 2147483647) I (rX_0 gr hk_gr) (by decide +kernel)
  refine dg_get (C := RX2) (T := TX2) (N := 19) hx hb hts (fun w h => bw_mem (wU_X2 w h)) hown K hP (rX_0 gr hk_gr) rfl 4 (dk_dq rfl) (hts _ (bw_mem wB_718)) (fun _ h9 => h9) (v := .int x_8) ((m_6.1 gr 4 _ (rX_0 gr hk_gr) (dk_dq rfl)).trans f_x_8) dX1_oddsOf_29 ?_
  refine lv_isub hx hb dX1_oddsOf_32 ?_
  refine lv_topi (fun x_9 ex_9 => ?_)
  as_aux_lemma =>
    refine lv_imul hx hb dX1_oddsOf_33 ?_
    refine lv_topi (fun x_10 ex_10 => ?_)
    refine lv_istore (lv' := [(6, .int x_10), (5, .int x_5), (4, .int x_3), (0, .ref (o + 221)), (1, .ref (o + gr)), (2, .ref (o + pt)), (3, .int a1)]) hx hb dX1_oddsOf_34 hl (dk_dq rfl) rfl (fun ls hl => ?_)
    refine lv_bipush (v := 8) hx hb dX1_oddsOf_36 (by decide +kernel) ?_
    refine lv_istore (lv' := [(7, .int 8), (6, .int x_10), (5, .int x_5), (4, .int x_3), (0, .ref (o + 221)), (1, .ref (o + gr)), (2, .ref (o + pt)), (3, .int a1)]) hx hb dX1_oddsOf_38 hl (dk_dq rfl) rfl (fun ls hl => ?_)
    have L_121 : ∀ (n : Nat) (x_118 : Int32) (x_119 : Int32), (8 ≤ (x_118).toInt ∧ (x_118).toInt ≤ 64) → ((65 - (x_118).toInt).toNat < n) → ∀ S_120 : dg_S, CX o S_120 → dg_sm shX [(3, 0), (3, 1), (36, 4), (36, 6), (36, 7), (36, 8), (36, 9), (36, 10), (36, 11), (36, 12), (37, 0), (37, 1), (37, 2), (37, 3), (37, 4), (37, 5), (37, 7)] [4, 5, 6, 7, 8, 9, 38, 39, 40, 41, 42] S S_120 → dg_FG S S_120 → Z2X S_120 → Z3X o S_120 → dg_fil S_120 pt → (F_f_oddsOf o S gr pt a1 = lp (F_f_oddsOf_B1 o gr pt x_5 x_8 a1) (S, (0 : Int32)) n (x_118, x_119, S_120)) → ∀ (H : Heap) (locs : List Loc), va_P D vwCl (dg_w g shX o rfX S_120) H → va_S A s.heap H locs → ∀ ls : Array Slot, lv_has ls 9 [(7, .int x_118), (6, .int x_119), (5, .int x_5), (4, .int x_3), (0, .ref (o + 221)), (1, .ref (o + gr)), (2, .ref (o + pt)), (3, .int a1)] → W p l e ({ frames := 7, cells := 0, slots := 0, locals := 173 } : Room) s m args below meth c H locs 0 0 (MQ below (va_Qi (fun (r : Int32) S' => CX o S' ∧ dg_sm shX [(3, 0), (3, 1), (36, 4), (36, 6), (36, 7), (36, 8), (36, 9), (36, 10), (36, 11), (36, 12), (37, 0), (37, 1), (37, 2), (37, 3), (37, 4), (37, 5), (37, 7)] [4, 5, 6, 7, 8, 9, 38, 39, 40, 41, 42] S S' ∧ Z2X S' ∧ Z3X o S' ∧ dg_FG S S' ∧ (S' = (F_f_oddsOf o S gr pt a1).1 ∧ r = (F_f_oddsOf o S gr pt a1).2) ∧ True) (dg_B g D shX o rfX) A) args s 0 0 A) (F0 m 40 ls []) := by
      as_aux_lemma =>
        intro n
        induction n with
        | zero =>
          intro x_118 x_119 b_x_118 hmu S_120 I_120 M_120 G_120 Z2_120 Z3_120 fl_120_0 hF_1 H locs hP hS ls hl
          omega
        | succ n ih =>
          as_aux_lemma =>
            intro x_118 x_119 b_x_118 hmu S_120 I_120 M_120 G_120 Z2_120 Z3_120 fl_120_0 hF_1 H locs hP hS ls hl
            refine lv_iload hx hb dX1_oddsOf_40 (lv_at hl 0 rfl) ?_
            refine lv_aload_n hx hb dX1_oddsOf_42 rfl (lv_at hl 5 rfl) ?_
            refine dg_calli hS hA1 hA (va_runV (As := []) (rest := [.int x_118]) F (c_g_endOfPlaces l g D o S_120 gr hk_gr I_120 H.size) (cwV 0 hts (bw_V wB_720 wB_721 wB_722 wB_9 wB_719) rfl rfl rfl (by decide +kernel) ⟨Nat.le_of_ble_eq_true rfl, Nat.le_of_ble_eq_true rfl⟩) (dg_preV (rX_0 gr hk_gr) rfl K ST hP hS hA1 hA) rfl rfl hl.1 rfl (lv_room (Nat.le_of_ble_eq_true rfl)) dX1_oddsOf_43 ⟨Nat.le_of_ble_eq_true rfl, Nat.le_of_ble_eq_true rfl⟩) (fun x_122 S_123 hw_123 H locs hP hS => ?_)
            rw [hw_123.1] at hP
            obtain ⟨hq_123, w_123_0, w_123_1, -⟩ := hw_123
            have w_123_0 : 8 ≤ (x_122).toInt ∧ (x_122).toInt ≤ 64 := w_123_0
            refine lv_icmp_ge (tgt := 104) hx hb dX1_oddsOf_46 (dk_dq rfl) (fun c_124 => ?_) (fun c_124 => ?_)
            · have jc_124 := dk_gec (k := (x_122).toInt) rfl c_124
              refine lv_iload hx hb dX1_oddsOf_104 (lv_at hl 1 rfl) ?_
              refine W.widen (k := 0) (n := 0) (Nat.le_of_ble_eq_true rfl) (Nat.le_of_ble_eq_true rfl) ?_
              exact dg_iret hx hb hr hlocks rfl hP hS ⟨I_120, M_120, Z2_120, Z3_120, G_120, ⟨congrArg Prod.fst (Eq.symm (lp_r hF_1 (F_f_oddsOf_p0 w_123_1 c_124))), congrArg Prod.snd (Eq.symm (lp_r hF_1 (F_f_oddsOf_p0 w_123_1 c_124)))⟩, trivial⟩ dX1_oddsOf_106
            · as_aux_lemma =>
                have jc_124 := dk_ngec (k := (x_122).toInt) rfl c_124
                refine lv_aload_n hx hb dX1_oddsOf_49 rfl (lv_at hl 6 rfl) ?_
                refine dg_get (C := RX5) (T := TX5) (N := 8) hx hb hts (fun w h => bw_mem (wU_X5 w h)) hown K hP (pX_0 pt hk_pt) rfl 2 (dk_dq rfl) (hts _ (bw_mem wB_671)) (fun _ h9 => h9) (v := .ref (o + (pt + 1))) (show S_120.1 pt 2 = .ref (o + (pt + 1)) from dg_I.rel (d := 1) I_120 (pX_0 pt hk_pt) (by decide +kernel)) dX1_oddsOf_50 ?_
                refine lv_iload hx hb dX1_oddsOf_53 (lv_at hl 0 rfl) ?_
                have hin_125 : vp_in x_118 72 := (dk_inv2 (by omega))
                refine dg_iald hx hb K hP (pX_1 pt hk_pt) hin_125 dX1_oddsOf_55 (fun x_126 ex_126 => ?_)
                have b_x_126 := dg_cel_at (dg_I.cel (lo := 0) (hi := 255) I_120 (pX_1 pt hk_pt) (by decide +kernel) fl_120_0) hin_125 ex_126
                refine lv_bipush (v := 100) hx hb dX1_oddsOf_56 (by decide +kernel) ?_
                have J_141 : ∀ (x_137 : Int32), ∀ S_140 : dg_S, CX o S_140 → dg_sm shX [(3, 0), (3, 1), (36, 4), (36, 6), (36, 7), (36, 8), (36, 9), (36, 10), (36, 11), (36, 12), (37, 0), (37, 1), (37, 2), (37, 3), (37, 4), (37, 5), (37, 7)] [4, 5, 6, 7, 8, 9, 38, 39, 40, 41, 42] S S_140 → dg_FG S S_140 → Z2X S_140 → Z3X o S_140 → dg_fil S_140 pt → ((F_f_oddsOf_B1 o gr pt x_5 x_8 a1) (x_118, x_119, S_120) = F_f_oddsOf_J2 x_118 x_137 S_140) → ∀ (H : Heap) (locs : List Loc), va_P D vwCl (dg_w g shX o rfX S_140) H → va_S A s.heap H locs → ∀ ls : Array Slot, lv_has ls 9 [(7, .int x_118), (6, .int x_137), (5, .int x_5), (4, .int x_3), (0, .ref (o + 221)), (1, .ref (o + gr)), (2, .ref (o + pt)), (3, .int a1)] → W p l e ({ frames := 7, cells := 0, slots := 0, locals := 173 } : Room) s m args below meth c H locs 0 0 (MQ below (va_Qi (fun (r : Int32) S' => CX o S' ∧ dg_sm shX [(3, 0), (3, 1), (36, 4), (36, 6), (36, 7), (36, 8), (36, 9), (36, 10), (36, 11), (36, 12), (37, 0), (37, 1), (37, 2), (37, 3), (37, 4), (37, 5), (37, 7)] [4, 5, 6, 7, 8, 9, 38, 39, 40, 41, 42] S S' ∧ Z2X S' ∧ Z3X o S' ∧ dg_FG S S' ∧ (S' = (F_f_oddsOf o S gr pt a1).1 ∧ r = (F_f_oddsOf o S gr pt a1).2) ∧ True) (dg_B g D shX o rfX) A) args s 0 0 A) (F0 m 98 ls []) := by
                  intro x_137 S_140 I_140 M_140 G_140 Z2_140 Z3_140 fl_140_0 hF_2 H locs hP hS ls hl
                  obtain ⟨x_142, ex_142⟩ : ∃ z, z = x_118 + 1 := ⟨_, rfl⟩
                  have jx_142 : (x_142).toInt = (x_118).toInt + 1 := by rw [ex_142]; exact dk_addT2 rfl (by decide +kernel) (by omega)
                  refine lv_iinc (v := x_142) (lv' := [(7, .int x_142), (6, .int x_137), (5, .int x_5), (4, .int x_3), (0, .ref (o + 221)), (1, .ref (o + gr)), (2, .ref (o + pt)), (3, .int a1)]) hx hb dX1_oddsOf_98 hl (k := 0) rfl (by rw [ex_142]; rfl) (dk_dq rfl) rfl (fun ls hl => ?_)
                  refine lv_goto (tgt := 40) hx hb dX1_oddsOf_101 (dk_dq rfl) ?_
                  exact ih x_142 x_137 (by omega) (by first | exact mu_lt hmu (by omega) (by omega) | omega) S_140 I_140 M_140 G_140 Z2_140 Z3_140 fl_140_0 (lp_l hF_1 (Eq.trans hF_2 (F_f_oddsOf_p1 ex_142))) _ _ hP hS _ (lv_sub hl [0, 1, 2, 3, 4, 5, 6, 7] rfl)
                refine lv_icmp_eq (tgt := 98) hx hb dX1_oddsOf_58 (dk_dq rfl) (fun c_143 => ?_) (fun c_143 => ?_)
                · have jc_143 := dk_eqc (k := 100) (by decide +kernel) c_143
                  exact J_141 x_119  S_120 I_120 M_120 G_120 Z2_120 Z3_120 fl_120_0 (F_f_oddsOf_p2 w_123_1 c_124 (Eq.symm ex_126.symm) c_143) _ _ hP hS _ (lv_sub hl [0, 1, 2, 3, 4, 5, 6, 7] rfl)
                · as_aux_lemma =>
                    have jc_143 := dk_neqc (k := 100) (by decide +kernel) c_143
                    refine lv_aload_n hx hb dX1_oddsOf_61 rfl (lv_at hl 6 rfl) ?_
                    refine lv_iload hx hb dX1_oddsOf_62 (lv_at hl 0 rfl) ?_
                    refine dg_calli hS hA1 hA (va_runV (As := [.int x_118]) (rest := []) F (c_p_isOpen l g D o S_120 pt hk_pt x_118 (by omega) I_120 H.size) (cwV 1 hts (bw_V wB_711 wB_496 wB_497 wB_493 wB_494) rfl rfl rfl (by decide +kernel) ⟨Nat.le_of_ble_eq_true rfl, Nat.le_of_ble_eq_true rfl⟩) (dg_preV (pX_0 pt hk_pt) rfl K ST hP hS hA1 hA) rfl rfl hl.1 rfl (lv_room (Nat.le_of_ble_eq_true rfl)) dX1_oddsOf_64 ⟨Nat.le_of_ble_eq_true rfl, Nat.le_of_ble_eq_true rfl⟩) (fun x_144 S_145 hw_145 H locs hP hS => ?_)
                    rw [hw_145.1] at hP
                    obtain ⟨hq_145, w_145_0, w_145_1, w_145_2, -⟩ := hw_145
                    have w_145_0 : 0 ≤ (x_144).toInt ∧ (x_144).toInt ≤ 1 := w_145_0
                    have w_145_1 : (x_144).toInt = 1 → (8 ≤ (x_118).toInt ∧ (x_118).toInt ≤ 63) := w_145_1
                    have J_154 : ∀ (x_149 : Int32), (0 ≤ (x_149).toInt ∧ (x_149).toInt ≤ 1) → ∀ S_153 : dg_S, CX o S_153 → dg_sm shX [(3, 0), (3, 1), (36, 4), (36, 6), (36, 7), (36, 8), (36, 9), (36, 10), (36, 11), (36, 12), (37, 0), (37, 1), (37, 2), (37, 3), (37, 4), (37, 5), (37, 7)] [4, 5, 6, 7, 8, 9, 38, 39, 40, 41, 42] S S_153 → dg_FG S S_153 → Z2X S_153 → Z3X o S_153 → dg_fil S_153 pt → ((F_f_oddsOf_B1 o gr pt x_5 x_8 a1) (x_118, x_119, S_120) = F_f_oddsOf_J3 x_149 x_8 x_119 x_118 S_153) → ∀ (H : Heap) (locs : List Loc), va_P D vwCl (dg_w g shX o rfX S_153) H → va_S A s.heap H locs → ∀ ls : Array Slot, lv_has ls 9 [(7, .int x_118), (6, .int x_119), (5, .int x_5), (4, .int x_3), (0, .ref (o + 221)), (1, .ref (o + gr)), (2, .ref (o + pt)), (3, .int a1)] → W p l e ({ frames := 7, cells := 0, slots := 0, locals := 173 } : Room) s m args below meth c H locs 0 0 (MQ below (va_Qi (fun (r : Int32) S' => CX o S' ∧ dg_sm shX [(3, 0), (3, 1), (36, 4), (36, 6), (36, 7), (36, 8), (36, 9), (36, 10), (36, 11), (36, 12), (37, 0), (37, 1), (37, 2), (37, 3), (37, 4), (37, 5), (37, 7)] [4, 5, 6, 7, 8, 9, 38, 39, 40, 41, 42] S S' ∧ Z2X S' ∧ Z3X o S' ∧ dg_FG S S' ∧ (S' = (F_f_oddsOf o S gr pt a1).1 ∧ r = (F_f_oddsOf o S gr pt a1).2) ∧ True) (dg_B g D shX o rfX) A) args s 0 0 A) (F0 m 84 ls [.int x_149]) := by
                      intro x_149 b_x_149 S_153 I_153 M_153 G_153 Z2_153 Z3_153 fl_153_0 hF_3 H locs hP hS ls hl
                      refine lv_istore (lv' := [(8, .int x_149), (7, .int x_118), (6, .int x_119), (5, .int x_5), (4, .int x_3), (0, .ref (o + 221)), (1, .ref (o + gr)), (2, .ref (o + pt)), (3, .int a1)]) hx hb dX1_oddsOf_84 hl (dk_dq rfl) rfl (fun ls hl => ?_)
                      refine lv_iload hx hb dX1_oddsOf_86 (lv_at hl 2 rfl) ?_
                      refine lv_iload hx hb dX1_oddsOf_88 (lv_at hl 0 rfl) ?_
                      refine lv_aload_n hx hb dX1_oddsOf_90 rfl (lv_at hl 6 rfl) ?_
                      refine dg_get (C := RX2) (T := TX2) (N := 19) hx hb hts (fun w h => bw_mem (wU_X2 w h)) hown K hP (rX_0 gr hk_gr) rfl 4 (dk_dq rfl) (hts _ (bw_mem wB_718)) (fun _ h9 => h9) (v := .int x_8) ((M_153.1 gr 4 _ (rX_0 gr hk_gr) (dk_dq rfl)).trans f_x_8) dX1_oddsOf_91 ?_
                      refine lv_imul hx hb dX1_oddsOf_94 ?_
                      refine lv_topi (fun x_155 ex_155 => ?_)
                      refine lv_iadd hx hb dX1_oddsOf_95 ?_
                      refine lv_topi (fun x_156 ex_156 => ?_)
                      refine lv_istore (lv' := [(6, .int x_156), (8, .int x_149), (7, .int x_118), (5, .int x_5), (4, .int x_3), (0, .ref (o + 221)), (1, .ref (o + gr)), (2, .ref (o + pt)), (3, .int a1)]) hx hb dX1_oddsOf_96 hl (dk_dq rfl) rfl (fun ls hl => ?_)
                      exact J_141 x_156  S_153 I_153 M_153 G_153 Z2_153 Z3_153 fl_153_0 (Eq.trans hF_3 (F_f_oddsOf_p3 ex_155 ex_156)) _ _ hP hS _ (lv_sub hl [2, 0, 3, 4, 5, 6, 7, 8] rfl)
                    refine lv_if_eq (tgt := 82) hx hb dX1_oddsOf_67 (dk_dq rfl) (fun c_157 => ?_) (fun c_157 => ?_)
                    · have jc_157 := dk_eqc (k := 0) (by decide +kernel) c_157
                      refine lv_iload hx hb dX1_oddsOf_82 (lv_at hl 2 rfl) ?_
                      exact J_154 x_5 (by omega) S_120 I_120 M_120 G_120 Z2_120 Z3_120 fl_120_0 (F_f_oddsOf_p4 w_123_1 c_124 (Eq.symm ex_126.symm) c_143 w_145_2 c_157) _ _ hP hS _ (lv_sub hl [0, 1, 2, 3, 4, 5, 6, 7] rfl)
                    · have jc_157 := dk_neqc (k := 0) (by decide +kernel) c_157
                      refine lv_aload_n hx hb dX1_oddsOf_70 rfl (lv_at hl 4 rfl) ?_
                      refine lv_aload_n hx hb dX1_oddsOf_71 rfl (lv_at hl 5 rfl) ?_
                      refine lv_aload_n hx hb dX1_oddsOf_72 rfl (lv_at hl 6 rfl) ?_
                      refine lv_iload hx hb dX1_oddsOf_73 (lv_at hl 0 rfl) ?_
                      refine lv_iload_n hx hb dX1_oddsOf_75 rfl (lv_at hl 7 rfl) ?_
                      refine dg_calli hS hA1 hA (va_runV (As := [.ref (o + gr), .ref (o + pt), .int x_118, .int a1]) (rest := []) F (c_f_openBehind l g D o S_120 gr hk_gr pt hk_pt x_118 (by omega) a1 (by omega) fl_120_0 Z2_120 Z3_120 I_120 H.size) (cwV 4 hts (bw_V wB_715 wB_716 wB_717 wB_693 wB_714) rfl rfl rfl (by decide +kernel) ⟨Nat.le_of_ble_eq_true rfl, Nat.le_of_ble_eq_true rfl⟩) (dg_preV sX_221 rfl K ST hP hS hA1 hA) rfl rfl hl.1 rfl (lv_room (Nat.le_of_ble_eq_true rfl)) dX1_oddsOf_76 ⟨Nat.le_of_ble_eq_true rfl, Nat.le_of_ble_eq_true rfl⟩) (fun x_158 S_159 hw_159 H locs hP hS => ?_)
                      obtain ⟨I_159, m_159, w_159_0, w_159_1, w_159_2, w_159_3, w_159_4, -⟩ := hw_159
                      have M_159 := dg_sm.tr M_120 m_159 (dk_dq rfl) (dk_dq rfl)
                      have w_159_0 : 0 ≤ (x_158).toInt ∧ (x_158).toInt ≤ 1 := w_159_0
                      refine lv_goto (tgt := 84) hx hb dX1_oddsOf_79 (dk_dq rfl) ?_
                      exact J_154 x_158 (by omega) S_159 I_159 M_159 (dg_FG.tr G_120 w_159_3) w_159_1 w_159_2 (w_159_3 pt hk_pt fl_120_0) (F_f_oddsOf_p5 w_123_1 c_124 (Eq.symm ex_126.symm) c_143 w_145_2 c_157 w_159_4.1 w_159_4.2) _ _ hP hS _ (lv_sub hl [0, 1, 2, 3, 4, 5, 6, 7] rfl)
    have hz_160 : (8 : Int32).toInt = 8 := by decide +kernel
    have hz_161 : (8 : Int32).toInt = 8 := by decide +kernel
    exact L_121 ((65 - ((8 : Int32)).toInt).toNat + 1) 8 x_10 (by decide +kernel) (by first | exact mu_lt hmu (by omega) (by omega) | omega) S_6 I_6 M_6 w_6_3 w_6_1 w_6_2 (w_6_3 pt hk_pt hf_pt) (F_f_oddsOf_p6 (zI_eq f_x_1) (zI_eq f_x_2) ex_3 w_6_4.1 w_6_4.2 ex_7 (zI_eq f_x_8) ex_9 ex_10) _ _ hP hS _ (lv_sub hl [0, 1, 2, 3, 4, 5, 6, 7] rfl)
