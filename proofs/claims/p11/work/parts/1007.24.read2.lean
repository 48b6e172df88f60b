/-! 24.read2.lean.txt -/
theorem dX6_readSeam_0 : decode cX6_readSeam 0 = .ok (.aload_n 0, 1) := dk_o42 (by decide +kernel)
theorem dX6_readSeam_1 : decode cX6_readSeam 1 = .ok (.invokevirtual 92, 3) := dk_o182 (by decide +kernel)
theorem dX6_readSeam_4 : decode cX6_readSeam 4 = .ok (.aload_n 0, 1) := dk_o42 (by decide +kernel)
theorem dX6_readSeam_5 : decode cX6_readSeam 5 = .ok (.iconst 3, 1) := dk_o6 (by decide +kernel)
theorem dX6_readSeam_6 : decode cX6_readSeam 6 = .ok (.bipush 7, 2) := dk_o16 (by decide +kernel)
theorem dX6_readSeam_8 : decode cX6_readSeam 8 = .ok (.invokevirtual 95, 3) := dk_o182 (by decide +kernel)
theorem dX6_readSeam_11 : decode cX6_readSeam 11 = .ok (.ifCond .ne 5, 3) := dk_o154 (by decide +kernel)
theorem dX6_readSeam_14 : decode cX6_readSeam 14 = .ok (.iconst 0, 1) := dk_o3 (by decide +kernel)
theorem dX6_readSeam_15 : decode cX6_readSeam 15 = .ok (.ireturn, 1) := dk_o172 (by decide +kernel)
theorem dX6_readSeam_16 : decode cX6_readSeam 16 = .ok (.aload_n 0, 1) := dk_o42 (by decide +kernel)
theorem dX6_readSeam_17 : decode cX6_readSeam 17 = .ok (.getfield 99, 3) := dk_o180 (by decide +kernel)
theorem dX6_readSeam_20 : decode cX6_readSeam 20 = .ok (.istore_n 1, 1) := dk_o60 (by decide +kernel)
theorem dX6_readSeam_21 : decode cX6_readSeam 21 = .ok (.aload_n 0, 1) := dk_o42 (by decide +kernel)
theorem dX6_readSeam_22 : decode cX6_readSeam 22 = .ok (.iconst 1, 1) := dk_o4 (by decide +kernel)
theorem dX6_readSeam_23 : decode cX6_readSeam 23 = .ok (.invokevirtual 102, 3) := dk_o182 (by decide +kernel)
theorem dX6_readSeam_26 : decode cX6_readSeam 26 = .ok (.ifCond .eq 13, 3) := dk_o153 (by decide +kernel)
theorem dX6_readSeam_29 : decode cX6_readSeam 29 = .ok (.aload_n 0, 1) := dk_o42 (by decide +kernel)
theorem dX6_readSeam_30 : decode cX6_readSeam 30 = .ok (.iconst 3, 1) := dk_o6 (by decide +kernel)
theorem dX6_readSeam_31 : decode cX6_readSeam 31 = .ok (.bipush 7, 2) := dk_o16 (by decide +kernel)
theorem dX6_readSeam_33 : decode cX6_readSeam 33 = .ok (.invokevirtual 95, 3) := dk_o182 (by decide +kernel)
theorem dX6_readSeam_36 : decode cX6_readSeam 36 = .ok (.ifCond .ne 5, 3) := dk_o154 (by decide +kernel)
theorem dX6_readSeam_39 : decode cX6_readSeam 39 = .ok (.iconst 0, 1) := dk_o3 (by decide +kernel)
theorem dX6_readSeam_40 : decode cX6_readSeam 40 = .ok (.ireturn, 1) := dk_o172 (by decide +kernel)
theorem dX6_readSeam_41 : decode cX6_readSeam 41 = .ok (.aload_n 0, 1) := dk_o42 (by decide +kernel)
theorem dX6_readSeam_42 : decode cX6_readSeam 42 = .ok (.getfield 22, 3) := dk_o180 (by decide +kernel)
theorem dX6_readSeam_45 : decode cX6_readSeam 45 = .ok (.iload_n 1, 1) := dk_o27 (by decide +kernel)
theorem dX6_readSeam_46 : decode cX6_readSeam 46 = .ok (.putfield 105, 3) := dk_o181 (by decide +kernel)
theorem dX6_readSeam_49 : decode cX6_readSeam 49 = .ok (.aload_n 0, 1) := dk_o42 (by decide +kernel)
theorem dX6_readSeam_50 : decode cX6_readSeam 50 = .ok (.getfield 22, 3) := dk_o180 (by decide +kernel)
theorem dX6_readSeam_53 : decode cX6_readSeam 53 = .ok (.aload_n 0, 1) := dk_o42 (by decide +kernel)
theorem dX6_readSeam_54 : decode cX6_readSeam 54 = .ok (.getfield 99, 3) := dk_o180 (by decide +kernel)
theorem dX6_readSeam_57 : decode cX6_readSeam 57 = .ok (.putfield 108, 3) := dk_o181 (by decide +kernel)
theorem dX6_readSeam_60 : decode cX6_readSeam 60 = .ok (.aload_n 0, 1) := dk_o42 (by decide +kernel)
theorem dX6_readSeam_61 : decode cX6_readSeam 61 = .ok (.getfield 22, 3) := dk_o180 (by decide +kernel)
theorem dX6_readSeam_64 : decode cX6_readSeam 64 = .ok (.aload_n 0, 1) := dk_o42 (by decide +kernel)
theorem dX6_readSeam_65 : decode cX6_readSeam 65 = .ok (.getfield 22, 3) := dk_o180 (by decide +kernel)
theorem dX6_readSeam_68 : decode cX6_readSeam 68 = .ok (.iconst 0, 1) := dk_o3 (by decide +kernel)
theorem dX6_readSeam_69 : decode cX6_readSeam 69 = .ok (.iconst 0, 1) := dk_o3 (by decide +kernel)
theorem dX6_readSeam_70 : decode cX6_readSeam 70 = .ok (.invokevirtual 111, 3) := dk_o182 (by decide +kernel)
theorem dX6_readSeam_73 : decode cX6_readSeam 73 = .ok (.putfield 115, 3) := dk_o181 (by decide +kernel)
theorem dX6_readSeam_76 : decode cX6_readSeam 76 = .ok (.iconst 1, 1) := dk_o4 (by decide +kernel)
theorem dX6_readSeam_77 : decode cX6_readSeam 77 = .ok (.ireturn, 1) := dk_o172 (by decide +kernel)
theorem dX6_readShaft_0 : decode cX6_readShaft 0 = .ok (.aload_n 0, 1) := dk_o42 (by decide +kernel)
theorem dX6_readShaft_1 : decode cX6_readShaft 1 = .ok (.invokevirtual 92, 3) := dk_o182 (by decide +kernel)
theorem dX6_readShaft_4 : decode cX6_readShaft 4 = .ok (.aload_n 0, 1) := dk_o42 (by decide +kernel)
theorem dX6_readShaft_5 : decode cX6_readShaft 5 = .ok (.iconst 0, 1) := dk_o3 (by decide +kernel)
theorem dX6_readShaft_6 : decode cX6_readShaft 6 = .ok (.aload_n 0, 1) := dk_o42 (by decide +kernel)
theorem dX6_readShaft_7 : decode cX6_readShaft 7 = .ok (.getfield 22, 3) := dk_o180 (by decide +kernel)
theorem dX6_readShaft_10 : decode cX6_readShaft 10 = .ok (.getfield 105, 3) := dk_o180 (by decide +kernel)
theorem dX6_readShaft_13 : decode cX6_readShaft 13 = .ok (.iconst 1, 1) := dk_o4 (by decide +kernel)
theorem dX6_readShaft_14 : decode cX6_readShaft 14 = .ok (.isub, 1) := dk_o100 (by decide +kernel)
theorem dX6_readShaft_15 : decode cX6_readShaft 15 = .ok (.invokevirtual 95, 3) := dk_o182 (by decide +kernel)
theorem dX6_readShaft_18 : decode cX6_readShaft 18 = .ok (.ifCond .ne 5, 3) := dk_o154 (by decide +kernel)
theorem dX6_readShaft_21 : decode cX6_readShaft 21 = .ok (.iconst 0, 1) := dk_o3 (by decide +kernel)
theorem dX6_readShaft_22 : decode cX6_readShaft 22 = .ok (.ireturn, 1) := dk_o172 (by decide +kernel)
theorem dX6_readShaft_23 : decode cX6_readShaft 23 = .ok (.aload_n 0, 1) := dk_o42 (by decide +kernel)
theorem dX6_readShaft_24 : decode cX6_readShaft 24 = .ok (.getfield 22, 3) := dk_o180 (by decide +kernel)
theorem dX6_readShaft_27 : decode cX6_readShaft 27 = .ok (.aload_n 0, 1) := dk_o42 (by decide +kernel)
theorem dX6_readShaft_28 : decode cX6_readShaft 28 = .ok (.getfield 22, 3) := dk_o180 (by decide +kernel)
theorem dX6_readShaft_31 : decode cX6_readShaft 31 = .ok (.aload_n 0, 1) := dk_o42 (by decide +kernel)
theorem dX6_readShaft_32 : decode cX6_readShaft 32 = .ok (.getfield 99, 3) := dk_o180 (by decide +kernel)
theorem dX6_readShaft_35 : decode cX6_readShaft 35 = .ok (.iconst 0, 1) := dk_o3 (by decide +kernel)
theorem dX6_readShaft_36 : decode cX6_readShaft 36 = .ok (.invokevirtual 111, 3) := dk_o182 (by decide +kernel)
theorem dX6_readShaft_39 : decode cX6_readShaft 39 = .ok (.putfield 115, 3) := dk_o181 (by decide +kernel)
theorem dX6_readShaft_42 : decode cX6_readShaft 42 = .ok (.iconst 1, 1) := dk_o4 (by decide +kernel)
theorem dX6_readShaft_43 : decode cX6_readShaft 43 = .ok (.ireturn, 1) := dk_o172 (by decide +kernel)
theorem dX6_readReach_0 : decode cX6_readReach 0 = .ok (.aload_n 0, 1) := dk_o42 (by decide +kernel)
theorem dX6_readReach_1 : decode cX6_readReach 1 = .ok (.invokevirtual 92, 3) := dk_o182 (by decide +kernel)
theorem dX6_readReach_4 : decode cX6_readReach 4 = .ok (.aload_n 0, 1) := dk_o42 (by decide +kernel)
theorem dX6_readReach_5 : decode cX6_readReach 5 = .ok (.iconst 0, 1) := dk_o3 (by decide +kernel)
theorem dX6_readReach_6 : decode cX6_readReach 6 = .ok (.bipush 20, 2) := dk_o16 (by decide +kernel)
theorem dX6_readReach_8 : decode cX6_readReach 8 = .ok (.invokevirtual 95, 3) := dk_o182 (by decide +kernel)
theorem dX6_readReach_11 : decode cX6_readReach 11 = .ok (.ifCond .ne 5, 3) := dk_o154 (by decide +kernel)
theorem dX6_readReach_14 : decode cX6_readReach 14 = .ok (.iconst 0, 1) := dk_o3 (by decide +kernel)
theorem dX6_readReach_15 : decode cX6_readReach 15 = .ok (.ireturn, 1) := dk_o172 (by decide +kernel)
theorem dX6_readReach_16 : decode cX6_readReach 16 = .ok (.aload_n 0, 1) := dk_o42 (by decide +kernel)
theorem dX6_readReach_17 : decode cX6_readReach 17 = .ok (.getfield 22, 3) := dk_o180 (by decide +kernel)
theorem dX6_readReach_20 : decode cX6_readReach 20 = .ok (.aload_n 0, 1) := dk_o42 (by decide +kernel)
theorem dX6_readReach_21 : decode cX6_readReach 21 = .ok (.getfield 99, 3) := dk_o180 (by decide +kernel)
theorem dX6_readReach_24 : decode cX6_readReach 24 = .ok (.putfield 118, 3) := dk_o181 (by decide +kernel)
theorem dX6_readReach_27 : decode cX6_readReach 27 = .ok (.iconst 1, 1) := dk_o4 (by decide +kernel)
theorem dX6_readReach_28 : decode cX6_readReach 28 = .ok (.ireturn, 1) := dk_o172 (by decide +kernel)
theorem dX6_readQuake_0 : decode cX6_readQuake 0 = .ok (.aload_n 0, 1) := dk_o42 (by decide +kernel)
theorem dX6_readQuake_1 : decode cX6_readQuake 1 = .ok (.invokevirtual 92, 3) := dk_o182 (by decide +kernel)
theorem dX6_readQuake_4 : decode cX6_readQuake 4 = .ok (.aload_n 0, 1) := dk_o42 (by decide +kernel)
theorem dX6_readQuake_5 : decode cX6_readQuake 5 = .ok (.iconst 0, 1) := dk_o3 (by decide +kernel)
theorem dX6_readQuake_6 : decode cX6_readQuake 6 = .ok (.bipush 100, 2) := dk_o16 (by decide +kernel)
theorem dX6_readQuake_8 : decode cX6_readQuake 8 = .ok (.invokevirtual 95, 3) := dk_o182 (by decide +kernel)
theorem dX6_readQuake_11 : decode cX6_readQuake 11 = .ok (.ifCond .ne 5, 3) := dk_o154 (by decide +kernel)
theorem dX6_readQuake_14 : decode cX6_readQuake 14 = .ok (.iconst 0, 1) := dk_o3 (by decide +kernel)
theorem dX6_readQuake_15 : decode cX6_readQuake 15 = .ok (.ireturn, 1) := dk_o172 (by decide +kernel)
theorem dX6_readQuake_16 : decode cX6_readQuake 16 = .ok (.aload_n 0, 1) := dk_o42 (by decide +kernel)
theorem dX6_readQuake_17 : decode cX6_readQuake 17 = .ok (.getfield 22, 3) := dk_o180 (by decide +kernel)
theorem dX6_readQuake_20 : decode cX6_readQuake 20 = .ok (.aload_n 0, 1) := dk_o42 (by decide +kernel)
theorem dX6_readQuake_21 : decode cX6_readQuake 21 = .ok (.getfield 99, 3) := dk_o180 (by decide +kernel)
theorem dX6_readQuake_24 : decode cX6_readQuake 24 = .ok (.putfield 121, 3) := dk_o181 (by decide +kernel)
theorem dX6_readQuake_27 : decode cX6_readQuake 27 = .ok (.iconst 1, 1) := dk_o4 (by decide +kernel)
theorem dX6_readQuake_28 : decode cX6_readQuake 28 = .ok (.ireturn, 1) := dk_o172 (by decide +kernel)
theorem dX6_readGrade_0 : decode cX6_readGrade 0 = .ok (.aload_n 0, 1) := dk_o42 (by decide +kernel)
theorem dX6_readGrade_1 : decode cX6_readGrade 1 = .ok (.invokevirtual 92, 3) := dk_o182 (by decide +kernel)
theorem dX6_readGrade_4 : decode cX6_readGrade 4 = .ok (.aload_n 0, 1) := dk_o42 (by decide +kernel)
theorem dX6_readGrade_5 : decode cX6_readGrade 5 = .ok (.invokevirtual 124, 3) := dk_o182 (by decide +kernel)
theorem dX6_readGrade_8 : decode cX6_readGrade 8 = .ok (.istore_n 1, 1) := dk_o60 (by decide +kernel)
theorem dX6_readGrade_9 : decode cX6_readGrade 9 = .ok (.iload_n 1, 1) := dk_o27 (by decide +kernel)
theorem dX6_readGrade_10 : decode cX6_readGrade 10 = .ok (.iconst (-1), 1) := dk_o2 (by decide +kernel)
theorem dX6_readGrade_11 : decode cX6_readGrade 11 = .ok (.if_icmp .eq 13, 3) := dk_o159 (by decide +kernel)
theorem dX6_readGrade_14 : decode cX6_readGrade 14 = .ok (.aload_n 0, 1) := dk_o42 (by decide +kernel)
theorem dX6_readGrade_15 : decode cX6_readGrade 15 = .ok (.iconst 0, 1) := dk_o3 (by decide +kernel)
theorem dX6_readGrade_16 : decode cX6_readGrade 16 = .ok (.bipush 9, 2) := dk_o16 (by decide +kernel)
theorem dX6_readGrade_18 : decode cX6_readGrade 18 = .ok (.invokevirtual 95, 3) := dk_o182 (by decide +kernel)
theorem dX6_readGrade_21 : decode cX6_readGrade 21 = .ok (.ifCond .ne 5, 3) := dk_o154 (by decide +kernel)
theorem dX6_readGrade_24 : decode cX6_readGrade 24 = .ok (.iconst 0, 1) := dk_o3 (by decide +kernel)
theorem dX6_readGrade_25 : decode cX6_readGrade 25 = .ok (.ireturn, 1) := dk_o172 (by decide +kernel)
theorem dX6_readGrade_26 : decode cX6_readGrade 26 = .ok (.aload_n 0, 1) := dk_o42 (by decide +kernel)
theorem dX6_readGrade_27 : decode cX6_readGrade 27 = .ok (.getfield 22, 3) := dk_o180 (by decide +kernel)
theorem dX6_readGrade_30 : decode cX6_readGrade 30 = .ok (.getfield 128, 3) := dk_o180 (by decide +kernel)
theorem dX6_readGrade_33 : decode cX6_readGrade 33 = .ok (.iload_n 1, 1) := dk_o27 (by decide +kernel)
theorem dX6_readGrade_34 : decode cX6_readGrade 34 = .ok (.aload_n 0, 1) := dk_o42 (by decide +kernel)
theorem dX6_readGrade_35 : decode cX6_readGrade 35 = .ok (.getfield 99, 3) := dk_o180 (by decide +kernel)
theorem dX6_readGrade_38 : decode cX6_readGrade 38 = .ok (.iastore, 1) := dk_o79 (by decide +kernel)
theorem dX6_readGrade_39 : decode cX6_readGrade 39 = .ok (.iconst 1, 1) := dk_o4 (by decide +kernel)
theorem dX6_readGrade_40 : decode cX6_readGrade 40 = .ok (.ireturn, 1) := dk_o172 (by decide +kernel)
theorem dX6_readMiner_0 : decode cX6_readMiner 0 = .ok (.aload_n 0, 1) := dk_o42 (by decide +kernel)
theorem dX6_readMiner_1 : decode cX6_readMiner 1 = .ok (.getfield 22, 3) := dk_o180 (by decide +kernel)
theorem dX6_readMiner_4 : decode cX6_readMiner 4 = .ok (.getfield 131, 3) := dk_o180 (by decide +kernel)
theorem dX6_readMiner_7 : decode cX6_readMiner 7 = .ok (.bipush 6, 2) := dk_o16 (by decide +kernel)
theorem dX6_readMiner_9 : decode cX6_readMiner 9 = .ok (.if_icmp .ne 10, 3) := dk_o160 (by decide +kernel)
theorem dX6_readMiner_12 : decode cX6_readMiner 12 = .ok (.aload_n 0, 1) := dk_o42 (by decide +kernel)
theorem dX6_readMiner_13 : decode cX6_readMiner 13 = .ok (.bipush 6, 2) := dk_o16 (by decide +kernel)
theorem dX6_readMiner_15 : decode cX6_readMiner 15 = .ok (.invokevirtual 55, 3) := dk_o182 (by decide +kernel)
theorem dX6_readMiner_18 : decode cX6_readMiner 18 = .ok (.ireturn, 1) := dk_o172 (by decide +kernel)
theorem dX6_readMiner_19 : decode cX6_readMiner 19 = .ok (.aload_n 0, 1) := dk_o42 (by decide +kernel)
theorem dX6_readMiner_20 : decode cX6_readMiner 20 = .ok (.invokevirtual 92, 3) := dk_o182 (by decide +kernel)
theorem dX6_readMiner_23 : decode cX6_readMiner 23 = .ok (.aload_n 0, 1) := dk_o42 (by decide +kernel)
theorem dX6_readMiner_24 : decode cX6_readMiner 24 = .ok (.invokevirtual 134, 3) := dk_o182 (by decide +kernel)
theorem dX6_readMiner_27 : decode cX6_readMiner 27 = .ok (.ifCond .ne 5, 3) := dk_o154 (by decide +kernel)
theorem dX6_readMiner_30 : decode cX6_readMiner 30 = .ok (.iconst 0, 1) := dk_o3 (by decide +kernel)
theorem dX6_readMiner_31 : decode cX6_readMiner 31 = .ok (.ireturn, 1) := dk_o172 (by decide +kernel)
theorem dX6_readMiner_32 : decode cX6_readMiner 32 = .ok (.aload_n 0, 1) := dk_o42 (by decide +kernel)
theorem dX6_readMiner_33 : decode cX6_readMiner 33 = .ok (.getfield 22, 3) := dk_o180 (by decide +kernel)
theorem dX6_readMiner_36 : decode cX6_readMiner 36 = .ok (.getfield 137, 3) := dk_o180 (by decide +kernel)
theorem dX6_readMiner_39 : decode cX6_readMiner 39 = .ok (.aload_n 0, 1) := dk_o42 (by decide +kernel)
theorem dX6_readMiner_40 : decode cX6_readMiner 40 = .ok (.getfield 22, 3) := dk_o180 (by decide +kernel)
theorem dX6_readMiner_43 : decode cX6_readMiner 43 = .ok (.getfield 131, 3) := dk_o180 (by decide +kernel)
theorem dX6_readMiner_46 : decode cX6_readMiner 46 = .ok (.aload_n 0, 1) := dk_o42 (by decide +kernel)
theorem dX6_readMiner_47 : decode cX6_readMiner 47 = .ok (.getfield 99, 3) := dk_o180 (by decide +kernel)
theorem dX6_readMiner_50 : decode cX6_readMiner 50 = .ok (.iastore, 1) := dk_o79 (by decide +kernel)
theorem dX6_readMiner_51 : decode cX6_readMiner 51 = .ok (.aload_n 0, 1) := dk_o42 (by decide +kernel)
theorem dX6_readMiner_52 : decode cX6_readMiner 52 = .ok (.getfield 22, 3) := dk_o180 (by decide +kernel)
theorem dX6_readMiner_55 : decode cX6_readMiner 55 = .ok (.dup, 1) := dk_o89 (by decide +kernel)
theorem dX6_readMiner_56 : decode cX6_readMiner 56 = .ok (.getfield 131, 3) := dk_o180 (by decide +kernel)
theorem dX6_readMiner_59 : decode cX6_readMiner 59 = .ok (.iconst 1, 1) := dk_o4 (by decide +kernel)
theorem dX6_readMiner_60 : decode cX6_readMiner 60 = .ok (.iadd, 1) := dk_o96 (by decide +kernel)
theorem dX6_readMiner_61 : decode cX6_readMiner 61 = .ok (.putfield 131, 3) := dk_o181 (by decide +kernel)
theorem dX6_readMiner_64 : decode cX6_readMiner 64 = .ok (.iconst 1, 1) := dk_o4 (by decide +kernel)
theorem dX6_readMiner_65 : decode cX6_readMiner 65 = .ok (.ireturn, 1) := dk_o172 (by decide +kernel)
theorem dX6_readDig_0 : decode cX6_readDig 0 = .ok (.aload_n 0, 1) := dk_o42 (by decide +kernel)
theorem dX6_readDig_1 : decode cX6_readDig 1 = .ok (.getfield 22, 3) := dk_o180 (by decide +kernel)
theorem dX6_readDig_4 : decode cX6_readDig 4 = .ok (.getfield 140, 3) := dk_o180 (by decide +kernel)
theorem dX6_readDig_7 : decode cX6_readDig 7 = .ok (.bipush 16, 2) := dk_o16 (by decide +kernel)
theorem dX6_readDig_9 : decode cX6_readDig 9 = .ok (.if_icmp .ne 10, 3) := dk_o160 (by decide +kernel)
theorem dX6_readDig_12 : decode cX6_readDig 12 = .ok (.aload_n 0, 1) := dk_o42 (by decide +kernel)
theorem dX6_readDig_13 : decode cX6_readDig 13 = .ok (.bipush 6, 2) := dk_o16 (by decide +kernel)
theorem dX6_readDig_15 : decode cX6_readDig 15 = .ok (.invokevirtual 55, 3) := dk_o182 (by decide +kernel)
theorem dX6_readDig_18 : decode cX6_readDig 18 = .ok (.ireturn, 1) := dk_o172 (by decide +kernel)
theorem dX6_readDig_19 : decode cX6_readDig 19 = .ok (.aload_n 0, 1) := dk_o42 (by decide +kernel)
theorem dX6_readDig_20 : decode cX6_readDig 20 = .ok (.invokevirtual 92, 3) := dk_o182 (by decide +kernel)
theorem dX6_readDig_23 : decode cX6_readDig 23 = .ok (.aload_n 0, 1) := dk_o42 (by decide +kernel)
theorem dX6_readDig_24 : decode cX6_readDig 24 = .ok (.invokevirtual 143, 3) := dk_o182 (by decide +kernel)
theorem dX6_readDig_27 : decode cX6_readDig 27 = .ok (.istore_n 1, 1) := dk_o60 (by decide +kernel)
theorem dX6_readDig_28 : decode cX6_readDig 28 = .ok (.iload_n 1, 1) := dk_o27 (by decide +kernel)
theorem dX6_readDig_29 : decode cX6_readDig 29 = .ok (.iconst (-1), 1) := dk_o2 (by decide +kernel)
theorem dX6_readDig_30 : decode cX6_readDig 30 = .ok (.if_icmp .eq 12, 3) := dk_o159 (by decide +kernel)
theorem dX6_readDig_33 : decode cX6_readDig 33 = .ok (.aload_n 0, 1) := dk_o42 (by decide +kernel)
theorem dX6_readDig_34 : decode cX6_readDig 34 = .ok (.bipush 8, 2) := dk_o16 (by decide +kernel)
theorem dX6_readDig_36 : decode cX6_readDig 36 = .ok (.invokevirtual 102, 3) := dk_o182 (by decide +kernel)
theorem dX6_readDig_39 : decode cX6_readDig 39 = .ok (.ifCond .ne 5, 3) := dk_o154 (by decide +kernel)
theorem dX6_readDig_42 : decode cX6_readDig 42 = .ok (.iconst 0, 1) := dk_o3 (by decide +kernel)
theorem dX6_readDig_43 : decode cX6_readDig 43 = .ok (.ireturn, 1) := dk_o172 (by decide +kernel)
theorem dX6_readDig_44 : decode cX6_readDig 44 = .ok (.aload_n 0, 1) := dk_o42 (by decide +kernel)
theorem dX6_readDig_45 : decode cX6_readDig 45 = .ok (.invokevirtual 124, 3) := dk_o182 (by decide +kernel)
theorem dX6_readDig_48 : decode cX6_readDig 48 = .ok (.istore_n 2, 1) := dk_o61 (by decide +kernel)
theorem dX6_readDig_49 : decode cX6_readDig 49 = .ok (.iload_n 2, 1) := dk_o28 (by decide +kernel)
theorem dX6_readDig_50 : decode cX6_readDig 50 = .ok (.iconst (-1), 1) := dk_o2 (by decide +kernel)
theorem dX6_readDig_51 : decode cX6_readDig 51 = .ok (.if_icmp .ne 5, 3) := dk_o160 (by decide +kernel)
theorem dX6_readDig_54 : decode cX6_readDig 54 = .ok (.iconst 0, 1) := dk_o3 (by decide +kernel)
theorem dX6_readDig_55 : decode cX6_readDig 55 = .ok (.ireturn, 1) := dk_o172 (by decide +kernel)
theorem dX6_readDig_56 : decode cX6_readDig 56 = .ok (.aload_n 0, 1) := dk_o42 (by decide +kernel)
theorem dX6_readDig_57 : decode cX6_readDig 57 = .ok (.getfield 22, 3) := dk_o180 (by decide +kernel)
theorem dX6_readDig_60 : decode cX6_readDig 60 = .ok (.getfield 146, 3) := dk_o180 (by decide +kernel)
theorem dX6_readDig_63 : decode cX6_readDig 63 = .ok (.aload_n 0, 1) := dk_o42 (by decide +kernel)
theorem dX6_readDig_64 : decode cX6_readDig 64 = .ok (.getfield 22, 3) := dk_o180 (by decide +kernel)
theorem dX6_readDig_67 : decode cX6_readDig 67 = .ok (.getfield 140, 3) := dk_o180 (by decide +kernel)
theorem dX6_readDig_70 : decode cX6_readDig 70 = .ok (.iload_n 1, 1) := dk_o27 (by decide +kernel)
theorem dX6_readDig_71 : decode cX6_readDig 71 = .ok (.iastore, 1) := dk_o79 (by decide +kernel)
theorem dX6_readDig_72 : decode cX6_readDig 72 = .ok (.aload_n 0, 1) := dk_o42 (by decide +kernel)
theorem dX6_readDig_73 : decode cX6_readDig 73 = .ok (.getfield 22, 3) := dk_o180 (by decide +kernel)
theorem dX6_readDig_76 : decode cX6_readDig 76 = .ok (.getfield 149, 3) := dk_o180 (by decide +kernel)
theorem dX6_readDig_79 : decode cX6_readDig 79 = .ok (.aload_n 0, 1) := dk_o42 (by decide +kernel)
theorem dX6_readDig_80 : decode cX6_readDig 80 = .ok (.getfield 22, 3) := dk_o180 (by decide +kernel)
theorem dX6_readDig_83 : decode cX6_readDig 83 = .ok (.getfield 140, 3) := dk_o180 (by decide +kernel)
theorem dX6_readDig_86 : decode cX6_readDig 86 = .ok (.iload_n 2, 1) := dk_o28 (by decide +kernel)
theorem dX6_readDig_87 : decode cX6_readDig 87 = .ok (.iastore, 1) := dk_o79 (by decide +kernel)
theorem dX6_readDig_88 : decode cX6_readDig 88 = .ok (.aload_n 0, 1) := dk_o42 (by decide +kernel)
theorem dX6_readDig_89 : decode cX6_readDig 89 = .ok (.getfield 22, 3) := dk_o180 (by decide +kernel)
theorem dX6_readDig_92 : decode cX6_readDig 92 = .ok (.dup, 1) := dk_o89 (by decide +kernel)
theorem dX6_readDig_93 : decode cX6_readDig 93 = .ok (.getfield 140, 3) := dk_o180 (by decide +kernel)
theorem dX6_readDig_96 : decode cX6_readDig 96 = .ok (.iconst 1, 1) := dk_o4 (by decide +kernel)
theorem dX6_readDig_97 : decode cX6_readDig 97 = .ok (.iadd, 1) := dk_o96 (by decide +kernel)
theorem dX6_readDig_98 : decode cX6_readDig 98 = .ok (.putfield 140, 3) := dk_o181 (by decide +kernel)
theorem dX6_readDig_101 : decode cX6_readDig 101 = .ok (.iconst 1, 1) := dk_o4 (by decide +kernel)
theorem dX6_readDig_102 : decode cX6_readDig 102 = .ok (.ireturn, 1) := dk_o172 (by decide +kernel)
theorem dX6_readOrder_0 : decode cX6_readOrder 0 = .ok (.aload_n 0, 1) := dk_o42 (by decide +kernel)
theorem dX6_readOrder_1 : decode cX6_readOrder 1 = .ok (.getfield 22, 3) := dk_o180 (by decide +kernel)
theorem dX6_readOrder_4 : decode cX6_readOrder 4 = .ok (.getfield 152, 3) := dk_o180 (by decide +kernel)
theorem dX6_readOrder_7 : decode cX6_readOrder 7 = .ok (.istore_n 1, 1) := dk_o60 (by decide +kernel)
theorem dX6_readOrder_8 : decode cX6_readOrder 8 = .ok (.iload_n 1, 1) := dk_o27 (by decide +kernel)
theorem dX6_readOrder_9 : decode cX6_readOrder 9 = .ok (.iconst 5, 1) := dk_o8 (by decide +kernel)
theorem dX6_readOrder_10 : decode cX6_readOrder 10 = .ok (.if_icmp .ne 10, 3) := dk_o160 (by decide +kernel)
theorem dX6_readOrder_13 : decode cX6_readOrder 13 = .ok (.aload_n 0, 1) := dk_o42 (by decide +kernel)
theorem dX6_readOrder_14 : decode cX6_readOrder 14 = .ok (.bipush 6, 2) := dk_o16 (by decide +kernel)
theorem dX6_readOrder_16 : decode cX6_readOrder 16 = .ok (.invokevirtual 55, 3) := dk_o182 (by decide +kernel)
theorem dX6_readOrder_19 : decode cX6_readOrder 19 = .ok (.ireturn, 1) := dk_o172 (by decide +kernel)
theorem dX6_readOrder_20 : decode cX6_readOrder 20 = .ok (.aload_n 0, 1) := dk_o42 (by decide +kernel)
theorem dX6_readOrder_21 : decode cX6_readOrder 21 = .ok (.invokevirtual 92, 3) := dk_o182 (by decide +kernel)
theorem dX6_readOrder_24 : decode cX6_readOrder 24 = .ok (.aload_n 0, 1) := dk_o42 (by decide +kernel)
theorem dX6_readOrder_25 : decode cX6_readOrder 25 = .ok (.invokevirtual 134, 3) := dk_o182 (by decide +kernel)
theorem dX6_readOrder_28 : decode cX6_readOrder 28 = .ok (.ifCond .ne 5, 3) := dk_o154 (by decide +kernel)
theorem dX6_readOrder_31 : decode cX6_readOrder 31 = .ok (.iconst 0, 1) := dk_o3 (by decide +kernel)
theorem dX6_readOrder_32 : decode cX6_readOrder 32 = .ok (.ireturn, 1) := dk_o172 (by decide +kernel)
theorem dX6_readOrder_33 : decode cX6_readOrder 33 = .ok (.aload_n 0, 1) := dk_o42 (by decide +kernel)
theorem dX6_readOrder_34 : decode cX6_readOrder 34 = .ok (.getfield 22, 3) := dk_o180 (by decide +kernel)
theorem dX6_readOrder_37 : decode cX6_readOrder 37 = .ok (.getfield 155, 3) := dk_o180 (by decide +kernel)
theorem dX6_readOrder_40 : decode cX6_readOrder 40 = .ok (.iload_n 1, 1) := dk_o27 (by decide +kernel)
theorem dX6_readOrder_41 : decode cX6_readOrder 41 = .ok (.aload_n 0, 1) := dk_o42 (by decide +kernel)
theorem dX6_readOrder_42 : decode cX6_readOrder 42 = .ok (.getfield 99, 3) := dk_o180 (by decide +kernel)
theorem dX6_readOrder_45 : decode cX6_readOrder 45 = .ok (.iastore, 1) := dk_o79 (by decide +kernel)
theorem dX6_readOrder_46 : decode cX6_readOrder 46 = .ok (.aload_n 0, 1) := dk_o42 (by decide +kernel)
theorem dX6_readOrder_47 : decode cX6_readOrder 47 = .ok (.iconst 5, 1) := dk_o8 (by decide +kernel)
theorem dX6_readOrder_48 : decode cX6_readOrder 48 = .ok (.invokevirtual 102, 3) := dk_o182 (by decide +kernel)
theorem dX6_readOrder_51 : decode cX6_readOrder 51 = .ok (.ifCond .eq 13, 3) := dk_o153 (by decide +kernel)
theorem dX6_readOrder_54 : decode cX6_readOrder 54 = .ok (.aload_n 0, 1) := dk_o42 (by decide +kernel)
theorem dX6_readOrder_55 : decode cX6_readOrder 55 = .ok (.iconst 0, 1) := dk_o3 (by decide +kernel)
theorem dX6_readOrder_56 : decode cX6_readOrder 56 = .ok (.bipush 9, 2) := dk_o16 (by decide +kernel)
theorem dX6_readOrder_58 : decode cX6_readOrder 58 = .ok (.invokevirtual 95, 3) := dk_o182 (by decide +kernel)
theorem dX6_readOrder_61 : decode cX6_readOrder 61 = .ok (.ifCond .ne 5, 3) := dk_o154 (by decide +kernel)
theorem dX6_readOrder_64 : decode cX6_readOrder 64 = .ok (.iconst 0, 1) := dk_o3 (by decide +kernel)
theorem dX6_readOrder_65 : decode cX6_readOrder 65 = .ok (.ireturn, 1) := dk_o172 (by decide +kernel)
theorem dX6_readOrder_66 : decode cX6_readOrder 66 = .ok (.aload_n 0, 1) := dk_o42 (by decide +kernel)
theorem dX6_readOrder_67 : decode cX6_readOrder 67 = .ok (.getfield 22, 3) := dk_o180 (by decide +kernel)
theorem dX6_readOrder_70 : decode cX6_readOrder 70 = .ok (.getfield 158, 3) := dk_o180 (by decide +kernel)
theorem dX6_readOrder_73 : decode cX6_readOrder 73 = .ok (.iload_n 1, 1) := dk_o27 (by decide +kernel)
theorem dX6_readOrder_74 : decode cX6_readOrder 74 = .ok (.aload_n 0, 1) := dk_o42 (by decide +kernel)
theorem dX6_readOrder_75 : decode cX6_readOrder 75 = .ok (.getfield 99, 3) := dk_o180 (by decide +kernel)
theorem dX6_readOrder_78 : decode cX6_readOrder 78 = .ok (.iastore, 1) := dk_o79 (by decide +kernel)
theorem dX6_readOrder_79 : decode cX6_readOrder 79 = .ok (.aload_n 0, 1) := dk_o42 (by decide +kernel)
theorem dX6_readOrder_80 : decode cX6_readOrder 80 = .ok (.bipush 10, 2) := dk_o16 (by decide +kernel)
theorem dX6_readOrder_82 : decode cX6_readOrder 82 = .ok (.invokevirtual 102, 3) := dk_o182 (by decide +kernel)
theorem dX6_readOrder_85 : decode cX6_readOrder 85 = .ok (.ifCond .eq 13, 3) := dk_o153 (by decide +kernel)
theorem dX6_readOrder_88 : decode cX6_readOrder 88 = .ok (.aload_n 0, 1) := dk_o42 (by decide +kernel)
theorem dX6_readOrder_89 : decode cX6_readOrder 89 = .ok (.iconst 1, 1) := dk_o4 (by decide +kernel)
theorem dX6_readOrder_90 : decode cX6_readOrder 90 = .ok (.bipush 9, 2) := dk_o16 (by decide +kernel)
theorem dX6_readOrder_92 : decode cX6_readOrder 92 = .ok (.invokevirtual 95, 3) := dk_o182 (by decide +kernel)
theorem dX6_readOrder_95 : decode cX6_readOrder 95 = .ok (.ifCond .ne 5, 3) := dk_o154 (by decide +kernel)
theorem dX6_readOrder_98 : decode cX6_readOrder 98 = .ok (.iconst 0, 1) := dk_o3 (by decide +kernel)
theorem dX6_readOrder_99 : decode cX6_readOrder 99 = .ok (.ireturn, 1) := dk_o172 (by decide +kernel)
theorem dX6_readOrder_100 : decode cX6_readOrder 100 = .ok (.aload_n 0, 1) := dk_o42 (by decide +kernel)
theorem dX6_readOrder_101 : decode cX6_readOrder 101 = .ok (.getfield 22, 3) := dk_o180 (by decide +kernel)
theorem dX6_readOrder_104 : decode cX6_readOrder 104 = .ok (.getfield 161, 3) := dk_o180 (by decide +kernel)
theorem dX6_readOrder_107 : decode cX6_readOrder 107 = .ok (.iload_n 1, 1) := dk_o27 (by decide +kernel)
theorem dX6_readOrder_108 : decode cX6_readOrder 108 = .ok (.aload_n 0, 1) := dk_o42 (by decide +kernel)
theorem dX6_readOrder_109 : decode cX6_readOrder 109 = .ok (.getfield 99, 3) := dk_o180 (by decide +kernel)
theorem dX6_readOrder_112 : decode cX6_readOrder 112 = .ok (.iastore, 1) := dk_o79 (by decide +kernel)
theorem dX6_readOrder_113 : decode cX6_readOrder 113 = .ok (.aload_n 0, 1) := dk_o42 (by decide +kernel)
theorem dX6_readOrder_114 : decode cX6_readOrder 114 = .ok (.bipush 11, 2) := dk_o16 (by decide +kernel)
theorem dX6_readOrder_116 : decode cX6_readOrder 116 = .ok (.invokevirtual 102, 3) := dk_o182 (by decide +kernel)
theorem dX6_readOrder_119 : decode cX6_readOrder 119 = .ok (.ifCond .eq 14, 3) := dk_o153 (by decide +kernel)
theorem dX6_readOrder_122 : decode cX6_readOrder 122 = .ok (.aload_n 0, 1) := dk_o42 (by decide +kernel)
theorem dX6_readOrder_123 : decode cX6_readOrder 123 = .ok (.iconst 0, 1) := dk_o3 (by decide +kernel)
theorem dX6_readOrder_124 : decode cX6_readOrder 124 = .ok (.sipush 999, 3) := dk_o17 (by decide +kernel)
theorem dX6_readOrder_127 : decode cX6_readOrder 127 = .ok (.invokevirtual 95, 3) := dk_o182 (by decide +kernel)
theorem dX6_readOrder_130 : decode cX6_readOrder 130 = .ok (.ifCond .ne 5, 3) := dk_o154 (by decide +kernel)
theorem dX6_readOrder_133 : decode cX6_readOrder 133 = .ok (.iconst 0, 1) := dk_o3 (by decide +kernel)
theorem dX6_readOrder_134 : decode cX6_readOrder 134 = .ok (.ireturn, 1) := dk_o172 (by decide +kernel)
theorem dX6_readOrder_135 : decode cX6_readOrder 135 = .ok (.aload_n 0, 1) := dk_o42 (by decide +kernel)
theorem dX6_readOrder_136 : decode cX6_readOrder 136 = .ok (.getfield 22, 3) := dk_o180 (by decide +kernel)
theorem dX6_readOrder_139 : decode cX6_readOrder 139 = .ok (.getfield 164, 3) := dk_o180 (by decide +kernel)
theorem dX6_readOrder_142 : decode cX6_readOrder 142 = .ok (.iload_n 1, 1) := dk_o27 (by decide +kernel)
theorem dX6_readOrder_143 : decode cX6_readOrder 143 = .ok (.aload_n 0, 1) := dk_o42 (by decide +kernel)
theorem dX6_readOrder_144 : decode cX6_readOrder 144 = .ok (.getfield 99, 3) := dk_o180 (by decide +kernel)
theorem dX6_readOrder_147 : decode cX6_readOrder 147 = .ok (.iastore, 1) := dk_o79 (by decide +kernel)
theorem dX6_readOrder_148 : decode cX6_readOrder 148 = .ok (.aload_n 0, 1) := dk_o42 (by decide +kernel)
theorem dX6_readOrder_149 : decode cX6_readOrder 149 = .ok (.getfield 22, 3) := dk_o180 (by decide +kernel)
theorem dX6_readOrder_152 : decode cX6_readOrder 152 = .ok (.dup, 1) := dk_o89 (by decide +kernel)
theorem dX6_readOrder_153 : decode cX6_readOrder 153 = .ok (.getfield 152, 3) := dk_o180 (by decide +kernel)
theorem dX6_readOrder_156 : decode cX6_readOrder 156 = .ok (.iconst 1, 1) := dk_o4 (by decide +kernel)
theorem dX6_readOrder_157 : decode cX6_readOrder 157 = .ok (.iadd, 1) := dk_o96 (by decide +kernel)
theorem dX6_readOrder_158 : decode cX6_readOrder 158 = .ok (.putfield 152, 3) := dk_o181 (by decide +kernel)
theorem dX6_readOrder_161 : decode cX6_readOrder 161 = .ok (.iconst 1, 1) := dk_o4 (by decide +kernel)
theorem dX6_readOrder_162 : decode cX6_readOrder 162 = .ok (.ireturn, 1) := dk_o172 (by decide +kernel)
theorem wB_57 : Cond.fieldLink RX6 115 "DarkMine$Ground" "shaftPlace" "I" ∈ dgB := List.mem_filter.mpr ⟨tbl_1 _ (List.mem_of_getElem? (i := 190) (by decide +kernel)), by decide +kernel⟩
theorem wB_58 : Cond.fieldLink RX6 118 "DarkMine$Ground" "reach" "I" ∈ dgB := List.mem_filter.mpr ⟨tbl_1 _ (List.mem_of_getElem? (i := 196) (by decide +kernel)), by decide +kernel⟩
theorem wB_59 : Cond.fieldLink RX6 121 "DarkMine$Ground" "quake" "I" ∈ dgB := List.mem_filter.mpr ⟨tbl_1 _ (List.mem_of_getElem? (i := 199) (by decide +kernel)), by decide +kernel⟩
theorem wB_60 : Cond.code yX6_takeCell cX6_takeCell 2 (some .int) ∈ dgB := List.mem_filter.mpr ⟨tbl_4 _ (List.mem_of_getElem? (i := 5) rfl), rfl⟩
theorem wB_61 : Cond.methodLink RX6 124 yX6_takeCell ∈ dgB := List.mem_filter.mpr ⟨tbl_4 _ (List.mem_of_getElem? (i := 2) (by decide +kernel)), by decide +kernel⟩
theorem wB_62 : Cond.instanceMethod yX6_takeCell ∈ dgB := List.mem_filter.mpr ⟨tbl_4 _ (List.mem_of_getElem? (i := 4) (by decide +kernel)), by decide +kernel⟩
theorem wB_63 : Cond.selects RX6 yX6_takeCell yX6_takeCell ∈ dgB := List.mem_filter.mpr ⟨List.mem_of_getElem? (i := 17) (by decide +kernel), by decide +kernel⟩
theorem wB_64 : Cond.fieldLink RX6 128 "DarkMine$Ground" "grades" "[I" ∈ dgB := List.mem_filter.mpr ⟨tbl_1 _ (List.mem_of_getElem? (i := 204) (by decide +kernel)), by decide +kernel⟩
theorem wB_65 : Cond.fieldLink RX6 131 "DarkMine$Ground" "miners" "I" ∈ dgB := List.mem_filter.mpr ⟨tbl_1 _ (List.mem_of_getElem? (i := 208) (by decide +kernel)), by decide +kernel⟩
theorem wB_66 : Cond.code yX6_takeNewName cX6_takeNewName 1 (some .boolean) ∈ dgB := List.mem_filter.mpr ⟨tbl_4 _ (List.mem_of_getElem? (i := 13) rfl), rfl⟩
theorem wB_67 : Cond.methodLink RX6 134 yX6_takeNewName ∈ dgB := List.mem_filter.mpr ⟨tbl_4 _ (List.mem_of_getElem? (i := 10) (by decide +kernel)), by decide +kernel⟩
theorem wB_68 : Cond.instanceMethod yX6_takeNewName ∈ dgB := List.mem_filter.mpr ⟨tbl_4 _ (List.mem_of_getElem? (i := 12) (by decide +kernel)), by decide +kernel⟩
theorem wB_69 : Cond.selects RX6 yX6_takeNewName yX6_takeNewName ∈ dgB := List.mem_filter.mpr ⟨List.mem_of_getElem? (i := 19) (by decide +kernel), by decide +kernel⟩
theorem wB_70 : Cond.fieldLink RX6 137 "DarkMine$Ground" "minerNames" "[I" ∈ dgB := List.mem_filter.mpr ⟨tbl_1 _ (List.mem_of_getElem? (i := 211) (by decide +kernel)), by decide +kernel⟩
theorem wB_71 : Cond.fieldLink RX6 140 "DarkMine$Ground" "planRows" "I" ∈ dgB := List.mem_filter.mpr ⟨tbl_1 _ (List.mem_of_getElem? (i := 217) (by decide +kernel)), by decide +kernel⟩
theorem wB_72 : Cond.code yX6_takeMiner cX6_takeMiner 2 (some .int) ∈ dgB := List.mem_filter.mpr ⟨tbl_4 _ (List.mem_of_getElem? (i := 29) rfl), rfl⟩
theorem wB_73 : Cond.methodLink RX6 143 yX6_takeMiner ∈ dgB := List.mem_filter.mpr ⟨tbl_4 _ (List.mem_of_getElem? (i := 26) (by decide +kernel)), by decide +kernel⟩
theorem wB_74 : Cond.instanceMethod yX6_takeMiner ∈ dgB := List.mem_filter.mpr ⟨tbl_4 _ (List.mem_of_getElem? (i := 28) (by decide +kernel)), by decide +kernel⟩
theorem wB_75 : Cond.selects RX6 yX6_takeMiner yX6_takeMiner ∈ dgB := List.mem_filter.mpr ⟨List.mem_of_getElem? (i := 21) (by decide +kernel), by decide +kernel⟩
theorem wB_76 : Cond.code yX6_takeOwn cX6_takeOwn 2 (some .boolean) ∈ dgB := List.mem_filter.mpr ⟨tbl_3 _ (List.mem_of_getElem? (i := 221) rfl), rfl⟩
theorem wB_77 : Cond.methodLink RX6 102 yX6_takeOwn ∈ dgB := List.mem_filter.mpr ⟨tbl_3 _ (List.mem_of_getElem? (i := 218) (by decide +kernel)), by decide +kernel⟩
theorem wB_78 : Cond.instanceMethod yX6_takeOwn ∈ dgB := List.mem_filter.mpr ⟨tbl_3 _ (List.mem_of_getElem? (i := 220) (by decide +kernel)), by decide +kernel⟩
theorem wB_79 : Cond.selects RX6 yX6_takeOwn yX6_takeOwn ∈ dgB := List.mem_filter.mpr ⟨List.mem_of_getElem? (i := 12) (by decide +kernel), by decide +kernel⟩
theorem wB_80 : Cond.fieldLink RX6 146 "DarkMine$Ground" "planMiners" "[I" ∈ dgB := List.mem_filter.mpr ⟨tbl_1 _ (List.mem_of_getElem? (i := 220) (by decide +kernel)), by decide +kernel⟩
theorem wB_81 : Cond.fieldLink RX6 149 "DarkMine$Ground" "planPlaces" "[I" ∈ dgB := List.mem_filter.mpr ⟨tbl_1 _ (List.mem_of_getElem? (i := 223) (by decide +kernel)), by decide +kernel⟩
theorem wB_82 : Cond.fieldLink RX6 152 "DarkMine$Ground" "orders" "I" ∈ dgB := List.mem_filter.mpr ⟨tbl_1 _ (List.mem_of_getElem? (i := 227) (by decide +kernel)), by decide +kernel⟩
theorem wB_83 : Cond.fieldLink RX6 155 "DarkMine$Ground" "orderNames" "[I" ∈ dgB := List.mem_filter.mpr ⟨tbl_1 _ (List.mem_of_getElem? (i := 230) (by decide +kernel)), by decide +kernel⟩
theorem wB_84 : Cond.fieldLink RX6 158 "DarkMine$Ground" "orderGrades" "[I" ∈ dgB := List.mem_filter.mpr ⟨tbl_1 _ (List.mem_of_getElem? (i := 233) (by decide +kernel)), by decide +kernel⟩
theorem wB_85 : Cond.fieldLink RX6 161 "DarkMine$Ground" "orderTubs" "[I" ∈ dgB := List.mem_filter.mpr ⟨tbl_1 _ (List.mem_of_getElem? (i := 236) (by decide +kernel)), by decide +kernel⟩
theorem wB_86 : Cond.fieldLink RX6 164 "DarkMine$Ground" "orderPays" "[I" ∈ dgB := List.mem_filter.mpr ⟨tbl_1 _ (List.mem_of_getElem? (i := 239) (by decide +kernel)), by decide +kernel⟩
set_option maxHeartbeats 8000000 in
set_option maxRecDepth 100000 in
theorem c_rd_readShaft (l : Launch) (g : Nat → ClassId) (D : va_G) (o : Nat) (S : dg_S) (en : Int32) (kd : Nat → Int32) (vl : Nat → Int32) (S0 : dg_S) (d0 : Nat) (gd : Nat) (hk_gd : rX gd) (f_gd : S.1 209 3 = .ref (o + gd)) (n0 : Int32) (f_n0 : S.1 209 4 = .int n0) (b_n0 : 0 ≤ (n0).toInt ∧ (n0).toInt ≤ 1600) (cx : Int32) (f_cx : S.1 gd 0 = .int cx) (b_cx : 0 ≤ (cx).toInt ∧ (cx).toInt ≤ 7) (ry : Int32) (f_ry : S.1 gd 1 = .int ry) (b_ry : 0 ≤ (ry).toInt ∧ (ry).toInt ≤ 7) (ke : Int32) (f_ke : S.2.1 211 (en : Int32).toNatClampNeg = ke) (b_ke : 0 ≤ (ke).toInt ∧ (ke).toInt ≤ 0) (hne : (n0).toInt ≤ (en).toInt ∧ (en).toInt ≤ 1600 ∧ 0 ≤ (en).toInt) (hkd : ∀ k9 : Nat, k9 ≤ (en : Int32).toNatClampNeg → S.2.1 211 k9 = kd k9) (hvl : ∀ k9 : Nat, k9 ≤ (en : Int32).toNatClampNeg → S.2.1 213 k9 = vl k9) (hkn : (kd (n0 : Int32).toNatClampNeg).toInt ≠ 0) (hd0 : d0 ≠ gd) (Z1 : Z1X S) (GO : GOX S0 d0 S) (I : CX o S) (sz : Nat) : Met l yX6_readShaft (bw yX6_readShaft cX6_readShaft 1 (some .boolean)) ({ frames := 3, cells := 0, slots := 0, locals := 76 } : Room) (dk_Pc g D (dg_w g shX o rfX S) sz [.ref (o + 209)]) (va_Qi (fun (r : Int32) S' => CX o S' ∧ dg_sm shX [(19, 2), (31, 0), (31, 1), (31, 4), (31, 5)] [] S S' ∧ (0 ≤ (r).toInt ∧ (r).toInt ≤ 1) ∧ (∃ y9 : Int32, S'.1 gd 2 = .int y9 ∧ ((r).toInt = 1 → (y9).toInt = (vl ((n0 : Int32).toNatClampNeg + 1)).toInt + 8)) ∧ (∃ y9 : Int32, S'.1 209 4 = .int y9 ∧ ((y9).toInt ≤ (en).toInt ∧ g_ans r (y_num kd vl 0 ((cx).toInt - 1) ((n0 : Int32).toNatClampNeg + 1)) (y9 : Int32).toNatClampNeg)) ∧ Z1X S' ∧ GOX S0 d0 S' ∧ True) (dg_B g D shX o rfX) (dg_A o shX.length sz)) 0 0 (dg_A o shX.length sz) := by
  refine dg_met (cc := cX6_readShaft) (maxL := 1) (ret := (some .boolean)) (dk_dq rfl) rfl (Nat.le_of_ble_eq_true rfl) ?_
  intro p e s m args below meth c A hAe harg hx hb hr hml hts hown hlocks hin hP K hS hA1 hA ST hsz ls hl
  rw [← hAe]
  have F : CallFix p m c cX6_readShaft 1 s args (bw yX6_readShaft cX6_readShaft 1 (some .boolean)) RX6 := ⟨hx, hb, hml, hown, hts⟩
  have hl : lv_has ls 1 [(0, .ref (o + 209))] := hl
  have M_0 : dg_sm shX [(19, 2), (31, 0), (31, 1), (31, 4), (31, 5)] [] S S := dg_sm.rf
  refine lv_aload_n hx hb dX6_readShaft_0 rfl (lv_at hl 0 rfl) ?_
  refine dg_callv hS hA1 hA (va_runV (As := []) (rest := []) F (c_rd_pass l g D o S en kd vl n0 f_n0 (by omega) ke f_ke (by omega) (by omega) hkd hvl I s.heap.size) (cwV 0 hts (bw_V wB_26 wB_27 wB_28 wB_24 wB_25) rfl rfl rfl (by decide +kernel) ⟨Nat.le_of_ble_eq_true rfl, Nat.le_of_ble_eq_true rfl⟩) (dg_preV sX_209 rfl K ST hP hS hA1 hA) rfl rfl hl.1 rfl (lv_room (Nat.le_of_ble_eq_true rfl)) dX6_readShaft_1 ⟨Nat.le_of_ble_eq_true rfl, Nat.le_of_ble_eq_true rfl⟩) (fun S_1 hw_1 H locs hP hS => ?_)
  obtain ⟨I_1, m_1, w_1_0, -⟩ := hw_1
  have M_1 := dg_sm.tr M_0 m_1 (dk_dq rfl) (dk_dq rfl)
  obtain ⟨y_2, f_y_2, w_1_0⟩ := w_1_0
  have w_1_0 : (y_2).toInt ≤ (en).toInt ∧ ((kd (n0 : Int32).toNatClampNeg).toInt ≠ 0 → (y_2 : Int32).toNatClampNeg = (n0 : Int32).toNatClampNeg + 1) := w_1_0
  have b_y_2 : 0 ≤ (y_2).toInt ∧ (y_2).toInt ≤ 1600 := dg_I.intb (lo := 0) (hi := 1600) I_1 sX_209 (by decide +kernel) f_y_2
  have nq_y_2 : (y_2 : Int32).toNatClampNeg = (n0 : Int32).toNatClampNeg + 1 := by have h9 := w_1_0.2 hkn; omega
  refine lv_aload_n hx hb dX6_readShaft_4 rfl (lv_at hl 0 rfl) ?_
  refine lv_iconst (v := 0) hx hb dX6_readShaft_5 (by decide +kernel) ?_
  refine lv_aload_n hx hb dX6_readShaft_6 rfl (lv_at hl 0 rfl) ?_
  refine dg_get (C := RX6) (T := TX6) (N := 8) hx hb hts (fun w h => bw_mem (wU_X6 w h)) hown K hP sX_209 rfl 3 (dk_dq rfl) (hts _ (bw_mem wB_38)) (fun _ h9 => h9) (v := .ref (o + gd)) ((m_1.1 209 3 _ sX_209 (dk_dq rfl)).trans f_gd) dX6_readShaft_7 ?_
  refine dg_get (C := RX2) (T := TX2) (N := 19) hx hb hts (fun w h => bw_mem (wU_X2 w h)) hown K hP (rX_0 gd hk_gd) rfl 0 (dk_dq rfl) (hts _ (bw_mem wB_47)) (fun _ h9 => h9) (v := .int cx) ((m_1.1 gd 0 _ (rX_0 gd hk_gd) (dk_dq rfl)).trans f_cx) dX6_readShaft_10 ?_
  refine lv_iconst (v := 1) hx hb dX6_readShaft_13 (by decide +kernel) ?_
  refine lv_isub hx hb dX6_readShaft_14 ?_
  refine lv_topi (fun x_3 ex_3 => ?_)
  have jx_3 : (x_3).toInt = (cx).toInt - 1 := by rw [ex_3]; exact dk_subT2 rfl (by decide +kernel) (by omega)
  refine dg_calli hS hA1 hA (va_runV (As := [.int 0, .int x_3]) (rest := []) F (c_rd_takeNumber l g D o S_1 0 x_3 en kd vl y_2 f_y_2 (by omega) ke ((congrFun (m_1.2 211 _ sX_211 (dk_dq rfl)).1 _).trans f_ke) (by omega) (by omega) (fun k9 h9 => (congrFun (m_1.2 211 _ sX_211 (dk_dq rfl)).1 k9).trans (hkd k9 h9)) (fun k9 h9 => (congrFun (m_1.2 213 _ sX_213 (dk_dq rfl)).1 k9).trans (hvl k9 h9)) I_1 H.size) (cwV 2 hts (bw_V wB_49 wB_50 wB_51 wB_24 wB_48) rfl rfl rfl (by decide +kernel) ⟨Nat.le_of_ble_eq_true rfl, Nat.le_of_ble_eq_true rfl⟩) (dg_preV sX_209 rfl K ST hP hS hA1 hA) rfl rfl hl.1 rfl (lv_room (Nat.le_of_ble_eq_true rfl)) dX6_readShaft_15 ⟨Nat.le_of_ble_eq_true rfl, Nat.le_of_ble_eq_true rfl⟩) (fun x_4 S_5 hw_5 H locs hP hS => ?_)
  obtain ⟨I_5, m_5, w_5_0, w_5_1, w_5_2, -⟩ := hw_5
  have M_5 := dg_sm.tr M_1 m_5 (dk_dq rfl) (dk_dq rfl)
  have hz_6 : (0 : Int32).toInt = 0 := by decide +kernel
  have w_5_0 : 0 ≤ (x_4).toInt ∧ (x_4).toInt ≤ 1 := w_5_0
  obtain ⟨y_7, f_y_7, w_5_1⟩ := w_5_1
  have w_5_1 : (x_4).toInt = 1 → (y_7).toInt = (vl (y_2 : Int32).toNatClampNeg).toInt ∧ ((0 : Int32)).toInt ≤ (y_7).toInt ∧ (y_7).toInt ≤ (x_3).toInt := w_5_1
  obtain ⟨y_8, f_y_8, w_5_2⟩ := w_5_2
  have w_5_2 : (y_8).toInt ≤ (en).toInt ∧ g_ans x_4 (y_num kd vl ((0 : Int32)).toInt (x_3).toInt (y_2 : Int32).toNatClampNeg) (y_8 : Int32).toNatClampNeg := w_5_2
  have b_y_8 : 0 ≤ (y_8).toInt ∧ (y_8).toInt ≤ 1600 := dg_I.intb (lo := 0) (hi := 1600) I_5 sX_209 (by decide +kernel) f_y_8
  refine lv_if_ne (tgt := 23) hx hb dX6_readShaft_18 (dk_dq rfl) (fun c_9 => ?_) (fun c_9 => ?_)
  · as_aux_lemma =>
      have jc_9 := dk_neqc (k := 0) (by decide +kernel) c_9
      have qw_5_2 : y_num kd vl 0 ((cx).toInt - 1) ((n0 : Int32).toNatClampNeg + 1) = some (y_8 : Int32).toNatClampNeg := by have h9 := w_5_2.2.1 (by omega); rw [show (0 : Int32).toInt = 0 from by decide +kernel, jx_3, nq_y_2] at h9; exact h9
      have nq_y_8 : (y_8 : Int32).toNatClampNeg = (n0 : Int32).toNatClampNeg + 2 := by have h9 := (y_num_o qw_5_2).2.2.2; omega
      have qw_5_2k : y_num kd vl 0 ((cx).toInt - 1) ((n0 : Int32).toNatClampNeg + 1) = some ((n0 : Int32).toNatClampNeg + 2) := by rw [qw_5_2, nq_y_8]
      refine lv_aload_n hx hb dX6_readShaft_23 rfl (lv_at hl 0 rfl) ?_
      refine dg_get (C := RX6) (T := TX6) (N := 8) hx hb hts (fun w h => bw_mem (wU_X6 w h)) hown K hP sX_209 rfl 3 (dk_dq rfl) (hts _ (bw_mem wB_38)) (fun _ h9 => h9) (v := .ref (o + gd)) (((m_5.1 209 3 _ sX_209 (dk_dq rfl)).trans (m_1.1 209 3 _ sX_209 (dk_dq rfl))).trans f_gd) dX6_readShaft_24 ?_
      refine lv_aload_n hx hb dX6_readShaft_27 rfl (lv_at hl 0 rfl) ?_
      refine dg_get (C := RX6) (T := TX6) (N := 8) hx hb hts (fun w h => bw_mem (wU_X6 w h)) hown K hP sX_209 rfl 3 (dk_dq rfl) (hts _ (bw_mem wB_38)) (fun _ h9 => h9) (v := .ref (o + gd)) (((m_5.1 209 3 _ sX_209 (dk_dq rfl)).trans (m_1.1 209 3 _ sX_209 (dk_dq rfl))).trans f_gd) dX6_readShaft_28 ?_
      refine lv_aload_n hx hb dX6_readShaft_31 rfl (lv_at hl 0 rfl) ?_
      refine dg_get (C := RX6) (T := TX6) (N := 8) hx hb hts (fun w h => bw_mem (wU_X6 w h)) hown K hP sX_209 rfl 5 (dk_dq rfl) (hts _ (bw_mem wB_41)) (fun _ h9 => h9) (v := .int y_7) f_y_7 dX6_readShaft_32 ?_
      refine lv_iconst (v := 0) hx hb dX6_readShaft_35 (by decide +kernel) ?_
      refine dg_calli hS hA1 hA (va_runV (As := [.int y_7, .int 0]) (rest := [.ref (o + gd)]) F (c_g_placeOfF l g D o S_5 gd hk_gd y_7 0 cx (((m_5.1 gd 0 _ (rX_0 gd hk_gd) (dk_dq rfl)).trans (m_1.1 gd 0 _ (rX_0 gd hk_gd) (dk_dq rfl))).trans f_cx) (by omega) ry (((m_5.1 gd 1 _ (rX_0 gd hk_gd) (dk_dq rfl)).trans (m_1.1 gd 1 _ (rX_0 gd hk_gd) (dk_dq rfl))).trans f_ry) (by omega) I_5 H.size) (cwV 2 hts (bw_V wB_54 wB_55 wB_56 wB_9 wB_53) rfl rfl rfl (by decide +kernel) ⟨Nat.le_of_ble_eq_true rfl, Nat.le_of_ble_eq_true rfl⟩) (dg_preV (rX_0 gd hk_gd) rfl K ST hP hS hA1 hA) rfl rfl hl.1 rfl (lv_room (Nat.le_of_ble_eq_true rfl)) dX6_readShaft_36 ⟨Nat.le_of_ble_eq_true rfl, Nat.le_of_ble_eq_true rfl⟩) (fun x_10 S_11 hw_11 H locs hP hS => ?_)
      rw [hw_11.1] at hP
      obtain ⟨hq_11, w_11_0, w_11_1, w_11_2, -⟩ := hw_11
      have hz_12 : (0 : Int32).toInt = 0 := by decide +kernel
      have w_11_0 : ((-1) ≤ (x_10).toInt ∧ (x_10).toInt ≤ 62) ∧ ((x_10).toInt ≤ (-1) ∨ 8 ≤ (x_10).toInt) := w_11_0
      have w_11_1 : (x_10).toInt ≠ -1 ↔ (0 ≤ (y_7).toInt ∧ (y_7).toInt < (cx).toInt ∧ 0 ≤ ((0 : Int32)).toInt ∧ ((0 : Int32)).toInt < (ry).toInt) := w_11_1
      have w_11_2 : (x_10).toInt ≠ -1 → (x_10).toInt = 8 * ((0 : Int32)).toInt + (y_7).toInt + 8 := w_11_2
      obtain ⟨x_13, f_x_13, b_x_13⟩ := dg_I.int (i := gd) (k := 2) (lo := (-1)) (hi := 63) I_5 (rX_0 gd hk_gd) (by decide +kernel)
      have hz9 := ((Z1X.keep (Z1X.keep Z1 m_1 (dk_dq rfl) (dk_dq rfl) (dk_dq rfl)) m_5 (dk_dq rfl) (dk_dq rfl) (dk_dq rfl)) gd hk_gd cx x_13 ry (((m_5.1 gd 0 _ (rX_0 gd hk_gd) (dk_dq rfl)).trans (m_1.1 gd 0 _ (rX_0 gd hk_gd) (dk_dq rfl))).trans f_cx) f_x_13 (((m_5.1 gd 1 _ (rX_0 gd hk_gd) (dk_dq rfl)).trans (m_1.1 gd 1 _ (rX_0 gd hk_gd) (dk_dq rfl))).trans f_ry)) (by omega)
      refine dg_put (ci := 2) (v := .int x_10) (ty := tyX2 2) (C := RX2) (T := TX2) (N := 19) hx hb hts (fun w h => bw_mem (wU_X2 w h)) tyX2 tyX2_ok nmX2 hown K hP hS hA1 (rX_0 gd hk_gd) rfl 2 (dk_dq rfl) (hts _ (bw_mem wB_57)) (fun _ h9 => h9) rfl (by decide +kernel) rfl rfl dX6_readShaft_39 (fun S_14 e_14 H locs hP hS => ?_)
      have I_14 := dg_I.uFi (lo := (-1)) (hi := 63) I_5 e_14 (rX_0 gd hk_gd) (by decide +kernel) (show (-1) ≤ (x_10).toInt ∧ (x_10).toInt ≤ 63 from (by omega))
      have M_14 := dg_sm.uF M_5 e_14 (rX_0 gd hk_gd) (dk_dq rfl)
      have GO_14 := GOX.uF (GOX.keep (GOX.keep GO m_1 (dk_dq rfl) (dk_dq rfl)) m_5 (dk_dq rfl) (dk_dq rfl)) hd0 e_14
      have Z1_14 := Z1X.shaft (Z1X.keep (Z1X.keep Z1 m_1 (dk_dq rfl) (dk_dq rfl) (dk_dq rfl)) m_5 (dk_dq rfl) (dk_dq rfl) (dk_dq rfl)) e_14 (by omega) (fun y hy => by rw [(((m_5.1 gd 1 _ (rX_0 gd hk_gd) (dk_dq rfl)).trans (m_1.1 gd 1 _ (rX_0 gd hk_gd) (dk_dq rfl))).trans f_ry)] at hy; cases hy; omega)
      refine lv_iconst (v := 1) hx hb dX6_readShaft_42 (by decide +kernel) ?_
      have hz_15 : (1 : Int32).toInt = 1 := by decide +kernel
      have hz_16 : (1 : Int32).toInt = 1 := by decide +kernel
      have hz_17 : (1 : Int32).toInt = 1 := by decide +kernel
      refine W.widen (k := 0) (n := 0) (Nat.le_of_ble_eq_true rfl) (Nat.le_of_ble_eq_true rfl) ?_
      exact dg_iret hx hb hr hlocks (by decide +kernel) hP hS ⟨I_14, M_14, (by decide +kernel), ⟨x_10, (dg_uF_at e_14), (fun _ => by have h9_0 := (w_5_1 (by omega)).1; rw [nq_y_2] at h9_0; (try simp only [Nat.add_assoc, Nat.reduceAdd] at h9_0); omega)⟩, ⟨y_8, ((dg_uF_ne e_14 (fun z => absurd z.2 (dk_dq rfl))).trans f_y_8), ⟨by omega, g_ans.y (by omega) (by simp [nq_y_2, nq_y_8, qw_5_2k])⟩⟩, Z1_14, GO_14, trivial⟩ dX6_readShaft_43
  · have jc_9 := dk_eqc (k := 0) (by decide +kernel) c_9
    have qw_5_2 : y_num kd vl 0 ((cx).toInt - 1) ((n0 : Int32).toNatClampNeg + 1) = none := by have h9 := w_5_2.2.2 (by omega); rw [show (0 : Int32).toInt = 0 from by decide +kernel, jx_3, nq_y_2] at h9; exact h9
    refine lv_iconst (v := 0) hx hb dX6_readShaft_21 (by decide +kernel) ?_
    have hz_18 : (0 : Int32).toInt = 0 := by decide +kernel
    have hz_19 : (0 : Int32).toInt = 0 := by decide +kernel
    obtain ⟨x_20, f_x_20, b_x_20⟩ := dg_I.int (i := gd) (k := 2) (lo := (-1)) (hi := 63) I_5 (rX_0 gd hk_gd) (by decide +kernel)
    have hz_21 : (0 : Int32).toInt = 0 := by decide +kernel
    refine W.widen (k := 0) (n := 0) (Nat.le_of_ble_eq_true rfl) (Nat.le_of_ble_eq_true rfl) ?_
    exact dg_iret hx hb hr hlocks (by decide +kernel) hP hS ⟨I_5, M_5, (by decide +kernel), ⟨x_20, f_x_20, (fun q9 => absurd q9 (by omega))⟩, ⟨y_8, f_y_8, ⟨by omega, g_ans.n (by omega) (by simp [nq_y_2, qw_5_2])⟩⟩, (Z1X.keep (Z1X.keep Z1 m_1 (dk_dq rfl) (dk_dq rfl) (dk_dq rfl)) m_5 (dk_dq rfl) (dk_dq rfl) (dk_dq rfl)), (GOX.keep (GOX.keep GO m_1 (dk_dq rfl) (dk_dq rfl)) m_5 (dk_dq rfl) (dk_dq rfl)), trivial⟩ dX6_readShaft_22
set_option maxHeartbeats 8000000 in
set_option maxRecDepth 100000 in
theorem c_rd_readReach (l : Launch) (g : Nat → ClassId) (D : va_G) (o : Nat) (S : dg_S) (en : Int32) (kd : Nat → Int32) (vl : Nat → Int32) (S0 : dg_S) (d0 : Nat) (gd : Nat) (hk_gd : rX gd) (f_gd : S.1 209 3 = .ref (o + gd)) (n0 : Int32) (f_n0 : S.1 209 4 = .int n0) (b_n0 : 0 ≤ (n0).toInt ∧ (n0).toInt ≤ 1600) (ke : Int32) (f_ke : S.2.1 211 (en : Int32).toNatClampNeg = ke) (b_ke : 0 ≤ (ke).toInt ∧ (ke).toInt ≤ 0) (hne : (n0).toInt ≤ (en).toInt ∧ (en).toInt ≤ 1600 ∧ 0 ≤ (en).toInt) (hkd : ∀ k9 : Nat, k9 ≤ (en : Int32).toNatClampNeg → S.2.1 211 k9 = kd k9) (hvl : ∀ k9 : Nat, k9 ≤ (en : Int32).toNatClampNeg → S.2.1 213 k9 = vl k9) (hkn : (kd (n0 : Int32).toNatClampNeg).toInt ≠ 0) (hd0 : d0 ≠ gd) (GO : GOX S0 d0 S) (I : CX o S) (sz : Nat) : Met l yX6_readReach (bw yX6_readReach cX6_readReach 1 (some .boolean)) ({ frames := 3, cells := 0, slots := 0, locals := 76 } : Room) (dk_Pc g D (dg_w g shX o rfX S) sz [.ref (o + 209)]) (va_Qi (fun (r : Int32) S' => CX o S' ∧ dg_sm shX [(19, 3), (31, 0), (31, 1), (31, 4), (31, 5)] [] S S' ∧ (0 ≤ (r).toInt ∧ (r).toInt ≤ 1) ∧ (∃ y9 : Int32, S'.1 gd 3 = .int y9 ∧ ((r).toInt = 1 → (y9).toInt = (vl ((n0 : Int32).toNatClampNeg + 1)).toInt)) ∧ (∃ y9 : Int32, S'.1 209 4 = .int y9 ∧ ((y9).toInt ≤ (en).toInt ∧ g_ans r (y_num kd vl 0 20 ((n0 : Int32).toNatClampNeg + 1)) (y9 : Int32).toNatClampNeg)) ∧ GOX S0 d0 S' ∧ True) (dg_B g D shX o rfX) (dg_A o shX.length sz)) 0 0 (dg_A o shX.length sz) := by
  refine dg_met (cc := cX6_readReach) (maxL := 1) (ret := (some .boolean)) (dk_dq rfl) rfl (Nat.le_of_ble_eq_true rfl) ?_
  intro p e s m args below meth c A hAe harg hx hb hr hml hts hown hlocks hin hP K hS hA1 hA ST hsz ls hl
  rw [← hAe]
  have F : CallFix p m c cX6_readReach 1 s args (bw yX6_readReach cX6_readReach 1 (some .boolean)) RX6 := ⟨hx, hb, hml, hown, hts⟩
  have hl : lv_has ls 1 [(0, .ref (o + 209))] := hl
  have M_0 : dg_sm shX [(19, 3), (31, 0), (31, 1), (31, 4), (31, 5)] [] S S := dg_sm.rf
  refine lv_aload_n hx hb dX6_readReach_0 rfl (lv_at hl 0 rfl) ?_
  refine dg_callv hS hA1 hA (va_runV (As := []) (rest := []) F (c_rd_pass l g D o S en kd vl n0 f_n0 (by omega) ke f_ke (by omega) (by omega) hkd hvl I s.heap.size) (cwV 0 hts (bw_V wB_26 wB_27 wB_28 wB_24 wB_25) rfl rfl rfl (by decide +kernel) ⟨Nat.le_of_ble_eq_true rfl, Nat.le_of_ble_eq_true rfl⟩) (dg_preV sX_209 rfl K ST hP hS hA1 hA) rfl rfl hl.1 rfl (lv_room (Nat.le_of_ble_eq_true rfl)) dX6_readReach_1 ⟨Nat.le_of_ble_eq_true rfl, Nat.le_of_ble_eq_true rfl⟩) (fun S_1 hw_1 H locs hP hS => ?_)
  obtain ⟨I_1, m_1, w_1_0, -⟩ := hw_1
  have M_1 := dg_sm.tr M_0 m_1 (dk_dq rfl) (dk_dq rfl)
  obtain ⟨y_2, f_y_2, w_1_0⟩ := w_1_0
  have w_1_0 : (y_2).toInt ≤ (en).toInt ∧ ((kd (n0 : Int32).toNatClampNeg).toInt ≠ 0 → (y_2 : Int32).toNatClampNeg = (n0 : Int32).toNatClampNeg + 1) := w_1_0
  have b_y_2 : 0 ≤ (y_2).toInt ∧ (y_2).toInt ≤ 1600 := dg_I.intb (lo := 0) (hi := 1600) I_1 sX_209 (by decide +kernel) f_y_2
  have nq_y_2 : (y_2 : Int32).toNatClampNeg = (n0 : Int32).toNatClampNeg + 1 := by have h9 := w_1_0.2 hkn; omega
  refine lv_aload_n hx hb dX6_readReach_4 rfl (lv_at hl 0 rfl) ?_
  refine lv_iconst (v := 0) hx hb dX6_readReach_5 (by decide +kernel) ?_
  refine lv_bipush (v := 20) hx hb dX6_readReach_6 (by decide +kernel) ?_
  refine dg_calli hS hA1 hA (va_runV (As := [.int 0, .int 20]) (rest := []) F (c_rd_takeNumber l g D o S_1 0 20 en kd vl y_2 f_y_2 (by omega) ke ((congrFun (m_1.2 211 _ sX_211 (dk_dq rfl)).1 _).trans f_ke) (by omega) (by omega) (fun k9 h9 => (congrFun (m_1.2 211 _ sX_211 (dk_dq rfl)).1 k9).trans (hkd k9 h9)) (fun k9 h9 => (congrFun (m_1.2 213 _ sX_213 (dk_dq rfl)).1 k9).trans (hvl k9 h9)) I_1 H.size) (cwV 2 hts (bw_V wB_49 wB_50 wB_51 wB_24 wB_48) rfl rfl rfl (by decide +kernel) ⟨Nat.le_of_ble_eq_true rfl, Nat.le_of_ble_eq_true rfl⟩) (dg_preV sX_209 rfl K ST hP hS hA1 hA) rfl rfl hl.1 rfl (lv_room (Nat.le_of_ble_eq_true rfl)) dX6_readReach_8 ⟨Nat.le_of_ble_eq_true rfl, Nat.le_of_ble_eq_true rfl⟩) (fun x_3 S_4 hw_4 H locs hP hS => ?_)
  obtain ⟨I_4, m_4, w_4_0, w_4_1, w_4_2, -⟩ := hw_4
  have M_4 := dg_sm.tr M_1 m_4 (dk_dq rfl) (dk_dq rfl)
  have hz_5 : (0 : Int32).toInt = 0 := by decide +kernel
  have hz_6 : (20 : Int32).toInt = 20 := by decide +kernel
  have w_4_0 : 0 ≤ (x_3).toInt ∧ (x_3).toInt ≤ 1 := w_4_0
  obtain ⟨y_7, f_y_7, w_4_1⟩ := w_4_1
  have w_4_1 : (x_3).toInt = 1 → (y_7).toInt = (vl (y_2 : Int32).toNatClampNeg).toInt ∧ ((0 : Int32)).toInt ≤ (y_7).toInt ∧ (y_7).toInt ≤ ((20 : Int32)).toInt := w_4_1
  obtain ⟨y_8, f_y_8, w_4_2⟩ := w_4_2
  have w_4_2 : (y_8).toInt ≤ (en).toInt ∧ g_ans x_3 (y_num kd vl ((0 : Int32)).toInt ((20 : Int32)).toInt (y_2 : Int32).toNatClampNeg) (y_8 : Int32).toNatClampNeg := w_4_2
  have b_y_8 : 0 ≤ (y_8).toInt ∧ (y_8).toInt ≤ 1600 := dg_I.intb (lo := 0) (hi := 1600) I_4 sX_209 (by decide +kernel) f_y_8
  refine lv_if_ne (tgt := 16) hx hb dX6_readReach_11 (dk_dq rfl) (fun c_9 => ?_) (fun c_9 => ?_)
  · as_aux_lemma =>
      have jc_9 := dk_neqc (k := 0) (by decide +kernel) c_9
      have qw_4_2 : y_num kd vl 0 20 ((n0 : Int32).toNatClampNeg + 1) = some (y_8 : Int32).toNatClampNeg := by have h9 := w_4_2.2.1 (by omega); rw [show (0 : Int32).toInt = 0 from by decide +kernel, show (20 : Int32).toInt = 20 from by decide +kernel, nq_y_2] at h9; exact h9
      have nq_y_8 : (y_8 : Int32).toNatClampNeg = (n0 : Int32).toNatClampNeg + 2 := by have h9 := (y_num_o qw_4_2).2.2.2; omega
      have qw_4_2k : y_num kd vl 0 20 ((n0 : Int32).toNatClampNeg + 1) = some ((n0 : Int32).toNatClampNeg + 2) := by rw [qw_4_2, nq_y_8]
      refine lv_aload_n hx hb dX6_readReach_16 rfl (lv_at hl 0 rfl) ?_
      refine dg_get (C := RX6) (T := TX6) (N := 8) hx hb hts (fun w h => bw_mem (wU_X6 w h)) hown K hP sX_209 rfl 3 (dk_dq rfl) (hts _ (bw_mem wB_38)) (fun _ h9 => h9) (v := .ref (o + gd)) (((m_4.1 209 3 _ sX_209 (dk_dq rfl)).trans (m_1.1 209 3 _ sX_209 (dk_dq rfl))).trans f_gd) dX6_readReach_17 ?_
      refine lv_aload_n hx hb dX6_readReach_20 rfl (lv_at hl 0 rfl) ?_
      refine dg_get (C := RX6) (T := TX6) (N := 8) hx hb hts (fun w h => bw_mem (wU_X6 w h)) hown K hP sX_209 rfl 5 (dk_dq rfl) (hts _ (bw_mem wB_41)) (fun _ h9 => h9) (v := .int y_7) f_y_7 dX6_readReach_21 ?_
      refine dg_put (ci := 2) (v := .int y_7) (ty := tyX2 3) (C := RX2) (T := TX2) (N := 19) hx hb hts (fun w h => bw_mem (wU_X2 w h)) tyX2 tyX2_ok nmX2 hown K hP hS hA1 (rX_0 gd hk_gd) rfl 3 (dk_dq rfl) (hts _ (bw_mem wB_58)) (fun _ h9 => h9) rfl (by decide +kernel) rfl rfl dX6_readReach_24 (fun S_10 e_10 H locs hP hS => ?_)
      have I_10 := dg_I.uFi (lo := (-2147483648)) (hi := 2147483647) I_4 e_10 (rX_0 gd hk_gd) (by decide +kernel) (show (-2147483648) ≤ (y_7).toInt ∧ (y_7).toInt ≤ 2147483647 from (dk_full _))
      have M_10 := dg_sm.uF M_4 e_10 (rX_0 gd hk_gd) (dk_dq rfl)
      have GO_10 := GOX.uF (GOX.keep (GOX.keep GO m_1 (dk_dq rfl) (dk_dq rfl)) m_4 (dk_dq rfl) (dk_dq rfl)) hd0 e_10
      refine lv_iconst (v := 1) hx hb dX6_readReach_27 (by decide +kernel) ?_
      have hz_11 : (1 : Int32).toInt = 1 := by decide +kernel
      have hz_12 : (1 : Int32).toInt = 1 := by decide +kernel
      have hz_13 : (1 : Int32).toInt = 1 := by decide +kernel
      refine W.widen (k := 0) (n := 0) (Nat.le_of_ble_eq_true rfl) (Nat.le_of_ble_eq_true rfl) ?_
      exact dg_iret hx hb hr hlocks (by decide +kernel) hP hS ⟨I_10, M_10, (by decide +kernel), ⟨y_7, (dg_uF_at e_10), (fun _ => by have h9 := (w_4_1 (by omega)).1; rw [nq_y_2] at h9; omega)⟩, ⟨y_8, ((dg_uF_ne e_10 (fun z => absurd z.2 (dk_dq rfl))).trans f_y_8), ⟨by omega, g_ans.y (by omega) (by simp [nq_y_2, nq_y_8, qw_4_2k])⟩⟩, GO_10, trivial⟩ dX6_readReach_28
  · have jc_9 := dk_eqc (k := 0) (by decide +kernel) c_9
    have qw_4_2 : y_num kd vl 0 20 ((n0 : Int32).toNatClampNeg + 1) = none := by have h9 := w_4_2.2.2 (by omega); rw [show (0 : Int32).toInt = 0 from by decide +kernel, show (20 : Int32).toInt = 20 from by decide +kernel, nq_y_2] at h9; exact h9
    refine lv_iconst (v := 0) hx hb dX6_readReach_14 (by decide +kernel) ?_
    have hz_14 : (0 : Int32).toInt = 0 := by decide +kernel
    have hz_15 : (0 : Int32).toInt = 0 := by decide +kernel
    obtain ⟨x_16, f_x_16, b_x_16⟩ := dg_I.int (i := gd) (k := 3) (lo := (-2147483648)) (hi := 2147483647) I_4 (rX_0 gd hk_gd) (by decide +kernel)
    have hz_17 : (0 : Int32).toInt = 0 := by decide +kernel
    refine W.widen (k := 0) (n := 0) (Nat.le_of_ble_eq_true rfl) (Nat.le_of_ble_eq_true rfl) ?_
    exact dg_iret hx hb hr hlocks (by decide +kernel) hP hS ⟨I_4, M_4, (by decide +kernel), ⟨x_16, f_x_16, (fun q9 => absurd q9 (by omega))⟩, ⟨y_8, f_y_8, ⟨by omega, g_ans.n (by omega) (by simp [nq_y_2, qw_4_2])⟩⟩, (GOX.keep (GOX.keep GO m_1 (dk_dq rfl) (dk_dq rfl)) m_4 (dk_dq rfl) (dk_dq rfl)), trivial⟩ dX6_readReach_15
set_option maxHeartbeats 8000000 in
set_option maxRecDepth 100000 in
theorem c_rd_readQuake (l : Launch) (g : Nat → ClassId) (D : va_G) (o : Nat) (S : dg_S) (en : Int32) (kd : Nat → Int32) (vl : Nat → Int32) (S0 : dg_S) (d0 : Nat) (gd : Nat) (hk_gd : rX gd) (f_gd : S.1 209 3 = .ref (o + gd)) (n0 : Int32) (f_n0 : S.1 209 4 = .int n0) (b_n0 : 0 ≤ (n0).toInt ∧ (n0).toInt ≤ 1600) (ke : Int32) (f_ke : S.2.1 211 (en : Int32).toNatClampNeg = ke) (b_ke : 0 ≤ (ke).toInt ∧ (ke).toInt ≤ 0) (hne : (n0).toInt ≤ (en).toInt ∧ (en).toInt ≤ 1600 ∧ 0 ≤ (en).toInt) (hkd : ∀ k9 : Nat, k9 ≤ (en : Int32).toNatClampNeg → S.2.1 211 k9 = kd k9) (hvl : ∀ k9 : Nat, k9 ≤ (en : Int32).toNatClampNeg → S.2.1 213 k9 = vl k9) (hkn : (kd (n0 : Int32).toNatClampNeg).toInt ≠ 0) (hd0 : d0 ≠ gd) (GO : GOX S0 d0 S) (I : CX o S) (sz : Nat) : Met l yX6_readQuake (bw yX6_readQuake cX6_readQuake 1 (some .boolean)) ({ frames := 3, cells := 0, slots := 0, locals := 76 } : Room) (dk_Pc g D (dg_w g shX o rfX S) sz [.ref (o + 209)]) (va_Qi (fun (r : Int32) S' => CX o S' ∧ dg_sm shX [(19, 4), (31, 0), (31, 1), (31, 4), (31, 5)] [] S S' ∧ (0 ≤ (r).toInt ∧ (r).toInt ≤ 1) ∧ (∃ y9 : Int32, S'.1 gd 4 = .int y9 ∧ ((r).toInt = 1 → (y9).toInt = (vl ((n0 : Int32).toNatClampNeg + 1)).toInt)) ∧ (∃ y9 : Int32, S'.1 209 4 = .int y9 ∧ ((y9).toInt ≤ (en).toInt ∧ g_ans r (y_num kd vl 0 100 ((n0 : Int32).toNatClampNeg + 1)) (y9 : Int32).toNatClampNeg)) ∧ GOX S0 d0 S' ∧ True) (dg_B g D shX o rfX) (dg_A o shX.length sz)) 0 0 (dg_A o shX.length sz) := by
  refine dg_met (cc := cX6_readQuake) (maxL := 1) (ret := (some .boolean)) (dk_dq rfl) rfl (Nat.le_of_ble_eq_true rfl) ?_
  intro p e s m args below meth c A hAe harg hx hb hr hml hts hown hlocks hin hP K hS hA1 hA ST hsz ls hl
  rw [← hAe]
  have F : CallFix p m c cX6_readQuake 1 s args (bw yX6_readQuake cX6_readQuake 1 (some .boolean)) RX6 := ⟨hx, hb, hml, hown, hts⟩
  have hl : lv_has ls 1 [(0, .ref (o + 209))] := hl
  have M_0 : dg_sm shX [(19, 4), (31, 0), (31, 1), (31, 4), (31, 5)] [] S S := dg_sm.rf
  refine lv_aload_n hx hb dX6_readQuake_0 rfl (lv_at hl 0 rfl) ?_
  refine dg_callv hS hA1 hA (va_runV (As := []) (rest := []) F (c_rd_pass l g D o S en kd vl n0 f_n0 (by omega) ke f_ke (by omega) (by omega) hkd hvl I s.heap.size) (cwV 0 hts (bw_V wB_26 wB_27 wB_28 wB_24 wB_25) rfl rfl rfl (by decide +kernel) ⟨Nat.le_of_ble_eq_true rfl, Nat.le_of_ble_eq_true rfl⟩) (dg_preV sX_209 rfl K ST hP hS hA1 hA) rfl rfl hl.1 rfl (lv_room (Nat.le_of_ble_eq_true rfl)) dX6_readQuake_1 ⟨Nat.le_of_ble_eq_true rfl, Nat.le_of_ble_eq_true rfl⟩) (fun S_1 hw_1 H locs hP hS => ?_)
  obtain ⟨I_1, m_1, w_1_0, -⟩ := hw_1
  have M_1 := dg_sm.tr M_0 m_1 (dk_dq rfl) (dk_dq rfl)
  obtain ⟨y_2, f_y_2, w_1_0⟩ := w_1_0
  have w_1_0 : (y_2).toInt ≤ (en).toInt ∧ ((kd (n0 : Int32).toNatClampNeg).toInt ≠ 0 → (y_2 : Int32).toNatClampNeg = (n0 : Int32).toNatClampNeg + 1) := w_1_0
  have b_y_2 : 0 ≤ (y_2).toInt ∧ (y_2).toInt ≤ 1600 := dg_I.intb (lo := 0) (hi := 1600) I_1 sX_209 (by decide +kernel) f_y_2
  have nq_y_2 : (y_2 : Int32).toNatClampNeg = (n0 : Int32).toNatClampNeg + 1 := by have h9 := w_1_0.2 hkn; omega
  refine lv_aload_n hx hb dX6_readQuake_4 rfl (lv_at hl 0 rfl) ?_
  refine lv_iconst (v := 0) hx hb dX6_readQuake_5 (by decide +kernel) ?_
  refine lv_bipush (v := 100) hx hb dX6_readQuake_6 (by decide +kernel) ?_
  refine dg_calli hS hA1 hA (va_runV (As := [.int 0, .int 100]) (rest := []) F (c_rd_takeNumber l g D o S_1 0 100 en kd vl y_2 f_y_2 (by omega) ke ((congrFun (m_1.2 211 _ sX_211 (dk_dq rfl)).1 _).trans f_ke) (by omega) (by omega) (fun k9 h9 => (congrFun (m_1.2 211 _ sX_211 (dk_dq rfl)).1 k9).trans (hkd k9 h9)) (fun k9 h9 => (congrFun (m_1.2 213 _ sX_213 (dk_dq rfl)).1 k9).trans (hvl k9 h9)) I_1 H.size) (cwV 2 hts (bw_V wB_49 wB_50 wB_51 wB_24 wB_48) rfl rfl rfl (by decide +kernel) ⟨Nat.le_of_ble_eq_true rfl, Nat.le_of_ble_eq_true rfl⟩) (dg_preV sX_209 rfl K ST hP hS hA1 hA) rfl rfl hl.1 rfl (lv_room (Nat.le_of_ble_eq_true rfl)) dX6_readQuake_8 ⟨Nat.le_of_ble_eq_true rfl, Nat.le_of_ble_eq_true rfl⟩) (fun x_3 S_4 hw_4 H locs hP hS => ?_)
  obtain ⟨I_4, m_4, w_4_0, w_4_1, w_4_2, -⟩ := hw_4
  have M_4 := dg_sm.tr M_1 m_4 (dk_dq rfl) (dk_dq rfl)
  have hz_5 : (0 : Int32).toInt = 0 := by decide +kernel
  have hz_6 : (100 : Int32).toInt = 100 := by decide +kernel
  have w_4_0 : 0 ≤ (x_3).toInt ∧ (x_3).toInt ≤ 1 := w_4_0
  obtain ⟨y_7, f_y_7, w_4_1⟩ := w_4_1
  have w_4_1 : (x_3).toInt = 1 → (y_7).toInt = (vl (y_2 : Int32).toNatClampNeg).toInt ∧ ((0 : Int32)).toInt ≤ (y_7).toInt ∧ (y_7).toInt ≤ ((100 : Int32)).toInt := w_4_1
  obtain ⟨y_8, f_y_8, w_4_2⟩ := w_4_2
  have w_4_2 : (y_8).toInt ≤ (en).toInt ∧ g_ans x_3 (y_num kd vl ((0 : Int32)).toInt ((100 : Int32)).toInt (y_2 : Int32).toNatClampNeg) (y_8 : Int32).toNatClampNeg := w_4_2
  have b_y_8 : 0 ≤ (y_8).toInt ∧ (y_8).toInt ≤ 1600 := dg_I.intb (lo := 0) (hi := 1600) I_4 sX_209 (by decide +kernel) f_y_8
  refine lv_if_ne (tgt := 16) hx hb dX6_readQuake_11 (dk_dq rfl) (fun c_9 => ?_) (fun c_9 => ?_)
  · as_aux_lemma =>
      have jc_9 := dk_neqc (k := 0) (by decide +kernel) c_9
      have qw_4_2 : y_num kd vl 0 100 ((n0 : Int32).toNatClampNeg + 1) = some (y_8 : Int32).toNatClampNeg := by have h9 := w_4_2.2.1 (by omega); rw [show (0 : Int32).toInt = 0 from by decide +kernel, show (100 : Int32).toInt = 100 from by decide +kernel, nq_y_2] at h9; exact h9
      have nq_y_8 : (y_8 : Int32).toNatClampNeg = (n0 : Int32).toNatClampNeg + 2 := by have h9 := (y_num_o qw_4_2).2.2.2; omega
      have qw_4_2k : y_num kd vl 0 100 ((n0 : Int32).toNatClampNeg + 1) = some ((n0 : Int32).toNatClampNeg + 2) := by rw [qw_4_2, nq_y_8]
      refine lv_aload_n hx hb dX6_readQuake_16 rfl (lv_at hl 0 rfl) ?_
      refine dg_get (C := RX6) (T := TX6) (N := 8) hx hb hts (fun w h => bw_mem (wU_X6 w h)) hown K hP sX_209 rfl 3 (dk_dq rfl) (hts _ (bw_mem wB_38)) (fun _ h9 => h9) (v := .ref (o + gd)) (((m_4.1 209 3 _ sX_209 (dk_dq rfl)).trans (m_1.1 209 3 _ sX_209 (dk_dq rfl))).trans f_gd) dX6_readQuake_17 ?_
      refine lv_aload_n hx hb dX6_readQuake_20 rfl (lv_at hl 0 rfl) ?_
      refine dg_get (C := RX6) (T := TX6) (N := 8) hx hb hts (fun w h => bw_mem (wU_X6 w h)) hown K hP sX_209 rfl 5 (dk_dq rfl) (hts _ (bw_mem wB_41)) (fun _ h9 => h9) (v := .int y_7) f_y_7 dX6_readQuake_21 ?_
      refine dg_put (ci := 2) (v := .int y_7) (ty := tyX2 4) (C := RX2) (T := TX2) (N := 19) hx hb hts (fun w h => bw_mem (wU_X2 w h)) tyX2 tyX2_ok nmX2 hown K hP hS hA1 (rX_0 gd hk_gd) rfl 4 (dk_dq rfl) (hts _ (bw_mem wB_59)) (fun _ h9 => h9) rfl (by decide +kernel) rfl rfl dX6_readQuake_24 (fun S_10 e_10 H locs hP hS => ?_)
      have I_10 := dg_I.uFi (lo := (-2147483648)) (hi := 2147483647) I_4 e_10 (rX_0 gd hk_gd) (by decide +kernel) (show (-2147483648) ≤ (y_7).toInt ∧ (y_7).toInt ≤ 2147483647 from (dk_full _))
      have M_10 := dg_sm.uF M_4 e_10 (rX_0 gd hk_gd) (dk_dq rfl)
      have GO_10 := GOX.uF (GOX.keep (GOX.keep GO m_1 (dk_dq rfl) (dk_dq rfl)) m_4 (dk_dq rfl) (dk_dq rfl)) hd0 e_10
      refine lv_iconst (v := 1) hx hb dX6_readQuake_27 (by decide +kernel) ?_
      have hz_11 : (1 : Int32).toInt = 1 := by decide +kernel
      have hz_12 : (1 : Int32).toInt = 1 := by decide +kernel
      have hz_13 : (1 : Int32).toInt = 1 := by decide +kernel
      refine W.widen (k := 0) (n := 0) (Nat.le_of_ble_eq_true rfl) (Nat.le_of_ble_eq_true rfl) ?_
      exact dg_iret hx hb hr hlocks (by decide +kernel) hP hS ⟨I_10, M_10, (by decide +kernel), ⟨y_7, (dg_uF_at e_10), (fun _ => by have h9 := (w_4_1 (by omega)).1; rw [nq_y_2] at h9; omega)⟩, ⟨y_8, ((dg_uF_ne e_10 (fun z => by have h9 := sX_209; rw [z.1, (rX_0 gd hk_gd)] at h9; cases h9)).trans f_y_8), ⟨by omega, g_ans.y (by omega) (by simp [nq_y_2, nq_y_8, qw_4_2k])⟩⟩, GO_10, trivial⟩ dX6_readQuake_28
  · have jc_9 := dk_eqc (k := 0) (by decide +kernel) c_9
    have qw_4_2 : y_num kd vl 0 100 ((n0 : Int32).toNatClampNeg + 1) = none := by have h9 := w_4_2.2.2 (by omega); rw [show (0 : Int32).toInt = 0 from by decide +kernel, show (100 : Int32).toInt = 100 from by decide +kernel, nq_y_2] at h9; exact h9
    refine lv_iconst (v := 0) hx hb dX6_readQuake_14 (by decide +kernel) ?_
    have hz_14 : (0 : Int32).toInt = 0 := by decide +kernel
    have hz_15 : (0 : Int32).toInt = 0 := by decide +kernel
    obtain ⟨x_16, f_x_16, b_x_16⟩ := dg_I.int (i := gd) (k := 4) (lo := (-2147483648)) (hi := 2147483647) I_4 (rX_0 gd hk_gd) (by decide +kernel)
    have hz_17 : (0 : Int32).toInt = 0 := by decide +kernel
    refine W.widen (k := 0) (n := 0) (Nat.le_of_ble_eq_true rfl) (Nat.le_of_ble_eq_true rfl) ?_
    exact dg_iret hx hb hr hlocks (by decide +kernel) hP hS ⟨I_4, M_4, (by decide +kernel), ⟨x_16, f_x_16, (fun q9 => absurd q9 (by omega))⟩, ⟨y_8, f_y_8, ⟨by omega, g_ans.n (by omega) (by simp [nq_y_2, qw_4_2])⟩⟩, (GOX.keep (GOX.keep GO m_1 (dk_dq rfl) (dk_dq rfl)) m_4 (dk_dq rfl) (dk_dq rfl)), trivial⟩ dX6_readQuake_15
set_option maxHeartbeats 8000000 in
set_option maxRecDepth 100000 in
theorem c_rd_readGrade (l : Launch) (g : Nat → ClassId) (D : va_G) (o : Nat) (S : dg_S) (en : Int32) (kd : Nat → Int32) (vl : Nat → Int32) (S0 : dg_S) (d0 : Nat) (gd : Nat) (hk_gd : rX gd) (f_gd : S.1 209 3 = .ref (o + gd)) (n0 : Int32) (f_n0 : S.1 209 4 = .int n0) (b_n0 : 0 ≤ (n0).toInt ∧ (n0).toInt ≤ 1600) (cx : Int32) (f_cx : S.1 gd 0 = .int cx) (b_cx : 0 ≤ (cx).toInt ∧ (cx).toInt ≤ 7) (ry : Int32) (f_ry : S.1 gd 1 = .int ry) (b_ry : 0 ≤ (ry).toInt ∧ (ry).toInt ≤ 7) (ke : Int32) (f_ke : S.2.1 211 (en : Int32).toNatClampNeg = ke) (b_ke : 0 ≤ (ke).toInt ∧ (ke).toInt ≤ 0) (hne : (n0).toInt ≤ (en).toInt ∧ (en).toInt ≤ 1600 ∧ 0 ≤ (en).toInt) (hkd : ∀ k9 : Nat, k9 ≤ (en : Int32).toNatClampNeg → S.2.1 211 k9 = kd k9) (hvl : ∀ k9 : Nat, k9 ≤ (en : Int32).toNatClampNeg → S.2.1 213 k9 = vl k9) (hkn : (kd (n0 : Int32).toNatClampNeg).toInt ≠ 0) (hd0 : d0 ≠ gd) (GO : GOX S0 d0 S) (I : CX o S) (sz : Nat) : Met l yX6_readGrade (bw yX6_readGrade cX6_readGrade 2 (some .boolean)) ({ frames := 4, cells := 0, slots := 0, locals := 97 } : Room) (dk_Pc g D (dg_w g shX o rfX S) sz [.ref (o + 209)]) (va_Qi (fun (r : Int32) S' => CX o S' ∧ dg_sm shX [(31, 0), (31, 1), (31, 4), (31, 5)] [20] S S' ∧ (0 ≤ (r).toInt ∧ (r).toInt ≤ 1) ∧ (m_hid ((r).toInt = 1 → ∃ (v9 : Int32) (i9 : Nat), v9.toInt = (vl ((n0 : Int32).toNatClampNeg + 3)).toInt ∧ (i9 : Int) = 8 * (vl ((n0 : Int32).toNatClampNeg + 2)).toInt + (vl ((n0 : Int32).toNatClampNeg + 1)).toInt + 8 ∧ 8 ≤ (i9 : Int) ∧ S'.2.1 (gd + 1) = upd (S.2.1 (gd + 1)) i9 v9)) ∧ (∃ y9 : Int32, S'.1 209 4 = .int y9 ∧ ((y9).toInt ≤ (en).toInt ∧ g_ans r ((y_cell kd vl ((cx).toInt, (ry).toInt) ((n0 : Int32).toNatClampNeg + 1)).bind (y_num kd vl 0 9)) (y9 : Int32).toNatClampNeg)) ∧ GOX S0 d0 S' ∧ True) (dg_B g D shX o rfX) (dg_A o shX.length sz)) 0 0 (dg_A o shX.length sz) := by
  refine dg_met (cc := cX6_readGrade) (maxL := 2) (ret := (some .boolean)) (dk_dq rfl) rfl (Nat.le_of_ble_eq_true rfl) ?_
  intro p e s m args below meth c A hAe harg hx hb hr hml hts hown hlocks hin hP K hS hA1 hA ST hsz ls hl
  rw [← hAe]
  have F : CallFix p m c cX6_readGrade 2 s args (bw yX6_readGrade cX6_readGrade 2 (some .boolean)) RX6 := ⟨hx, hb, hml, hown, hts⟩
  have hl : lv_has ls 2 [(0, .ref (o + 209))] := hl
  have M_0 : dg_sm shX [(31, 0), (31, 1), (31, 4), (31, 5)] [20] S S := dg_sm.rf
  refine lv_aload_n hx hb dX6_readGrade_0 rfl (lv_at hl 0 rfl) ?_
  refine dg_callv hS hA1 hA (va_runV (As := []) (rest := []) F (c_rd_pass l g D o S en kd vl n0 f_n0 (by omega) ke f_ke (by omega) (by omega) hkd hvl I s.heap.size) (cwV 0 hts (bw_V wB_26 wB_27 wB_28 wB_24 wB_25) rfl rfl rfl (by decide +kernel) ⟨Nat.le_of_ble_eq_true rfl, Nat.le_of_ble_eq_true rfl⟩) (dg_preV sX_209 rfl K ST hP hS hA1 hA) rfl rfl hl.1 rfl (lv_room (Nat.le_of_ble_eq_true rfl)) dX6_readGrade_1 ⟨Nat.le_of_ble_eq_true rfl, Nat.le_of_ble_eq_true rfl⟩) (fun S_1 hw_1 H locs hP hS => ?_)
  obtain ⟨I_1, m_1, w_1_0, -⟩ := hw_1
  have M_1 := dg_sm.tr M_0 m_1 (dk_dq rfl) (dk_dq rfl)
  obtain ⟨y_2, f_y_2, w_1_0⟩ := w_1_0
  have w_1_0 : (y_2).toInt ≤ (en).toInt ∧ ((kd (n0 : Int32).toNatClampNeg).toInt ≠ 0 → (y_2 : Int32).toNatClampNeg = (n0 : Int32).toNatClampNeg + 1) := w_1_0
  have b_y_2 : 0 ≤ (y_2).toInt ∧ (y_2).toInt ≤ 1600 := dg_I.intb (lo := 0) (hi := 1600) I_1 sX_209 (by decide +kernel) f_y_2
  have nq_y_2 : (y_2 : Int32).toNatClampNeg = (n0 : Int32).toNatClampNeg + 1 := by have h9 := w_1_0.2 hkn; omega
  refine lv_aload_n hx hb dX6_readGrade_4 rfl (lv_at hl 0 rfl) ?_
  refine dg_calli hS hA1 hA (va_runV (As := []) (rest := []) F (c_rd_takeCell l g D o S_1 en kd vl gd hk_gd ((m_1.1 209 3 _ sX_209 (dk_dq rfl)).trans f_gd) y_2 f_y_2 (by omega) cx ((m_1.1 gd 0 _ (rX_0 gd hk_gd) (dk_dq rfl)).trans f_cx) (by omega) ry ((m_1.1 gd 1 _ (rX_0 gd hk_gd) (dk_dq rfl)).trans f_ry) (by omega) ke ((congrFun (m_1.2 211 _ sX_211 (dk_dq rfl)).1 _).trans f_ke) (by omega) (by omega) (fun k9 h9 => (congrFun (m_1.2 211 _ sX_211 (dk_dq rfl)).1 k9).trans (hkd k9 h9)) (fun k9 h9 => (congrFun (m_1.2 213 _ sX_213 (dk_dq rfl)).1 k9).trans (hvl k9 h9)) I_1 H.size) (cwV 0 hts (bw_V wB_61 wB_62 wB_63 wB_24 wB_60) rfl rfl rfl (by decide +kernel) ⟨Nat.le_of_ble_eq_true rfl, Nat.le_of_ble_eq_true rfl⟩) (dg_preV sX_209 rfl K ST hP hS hA1 hA) rfl rfl hl.1 rfl (lv_room (Nat.le_of_ble_eq_true rfl)) dX6_readGrade_5 ⟨Nat.le_of_ble_eq_true rfl, Nat.le_of_ble_eq_true rfl⟩) (fun x_3 S_4 hw_4 H locs hP hS => ?_)
  obtain ⟨I_4, m_4, w_4_0, w_4_1, w_4_2, -⟩ := hw_4
  have M_4 := dg_sm.tr M_1 m_4 (dk_dq rfl) (dk_dq rfl)
  have w_4_0 : ((-1) ≤ (x_3).toInt ∧ (x_3).toInt ≤ 62) ∧ ((x_3).toInt ≤ (-1) ∨ 8 ≤ (x_3).toInt) := w_4_0
  have w_4_1 : (x_3).toInt ≠ -1 → (x_3).toInt = 8 * (vl ((y_2 : Int32).toNatClampNeg + 1)).toInt + (vl (y_2 : Int32).toNatClampNeg).toInt + 8 := w_4_1
  obtain ⟨y_5, f_y_5, w_4_2⟩ := w_4_2
  have w_4_2 : (y_5).toInt ≤ (en).toInt ∧ g_an2 x_3 (y_cell kd vl ((cx).toInt, (ry).toInt) (y_2 : Int32).toNatClampNeg) (y_5 : Int32).toNatClampNeg := w_4_2
  have b_y_5 : 0 ≤ (y_5).toInt ∧ (y_5).toInt ≤ 1600 := dg_I.intb (lo := 0) (hi := 1600) I_4 sX_209 (by decide +kernel) f_y_5
  refine lv_istore_n (lv' := [(1, .int x_3), (0, .ref (o + 209))]) hx hb dX6_readGrade_8 rfl hl (dk_dq rfl) rfl (fun ls hl => ?_)
  refine lv_iload_n hx hb dX6_readGrade_9 rfl (lv_at hl 0 rfl) ?_
  refine lv_iconst (v := (-1)) hx hb dX6_readGrade_10 (by decide +kernel) ?_
  refine lv_icmp_eq (tgt := 24) hx hb dX6_readGrade_11 (dk_dq rfl) (fun c_6 => ?_) (fun c_6 => ?_)
  · have jc_6 := dk_eqc (k := (-1)) (by decide +kernel) c_6
    have qw_4_2 : y_cell kd vl ((cx).toInt, (ry).toInt) ((n0 : Int32).toNatClampNeg + 1) = none := by have h9 := w_4_2.2.2 (by omega); rw [nq_y_2] at h9; exact h9
    refine lv_iconst (v := 0) hx hb dX6_readGrade_24 (by decide +kernel) ?_
    have hz_7 : (0 : Int32).toInt = 0 := by decide +kernel
    have hz_8 : (0 : Int32).toInt = 0 := by decide +kernel
    have hz_9 : (0 : Int32).toInt = 0 := by decide +kernel
    refine W.widen (k := 0) (n := 0) (Nat.le_of_ble_eq_true rfl) (Nat.le_of_ble_eq_true rfl) ?_
    exact dg_iret hx hb hr hlocks (by decide +kernel) hP hS ⟨I_4, M_4, (by decide +kernel), (m_hid.mk (fun q9 => absurd q9 (by omega))), ⟨y_5, f_y_5, ⟨by omega, g_ans.n (by omega) (by simp [nq_y_2, qw_4_2])⟩⟩, (GOX.keep (GOX.keep GO m_1 (dk_dq rfl) (dk_dq rfl)) m_4 (dk_dq rfl) (dk_dq rfl)), trivial⟩ dX6_readGrade_25
  · as_aux_lemma =>
      have jc_6 := dk_neqc (k := (-1)) (by decide +kernel) c_6
      have qw_4_2 : y_cell kd vl ((cx).toInt, (ry).toInt) ((n0 : Int32).toNatClampNeg + 1) = some (y_5 : Int32).toNatClampNeg := by have h9 := w_4_2.2.1 (by omega); rw [nq_y_2] at h9; exact h9
      have nr_y_5 : (y_5 : Int32).toNatClampNeg = (n0 : Int32).toNatClampNeg + 3 := by have h9 := y_cell_k qw_4_2; omega
      refine lv_aload_n hx hb dX6_readGrade_14 rfl (lv_at hl 1 rfl) ?_
      refine lv_iconst (v := 0) hx hb dX6_readGrade_15 (by decide +kernel) ?_
      refine lv_bipush (v := 9) hx hb dX6_readGrade_16 (by decide +kernel) ?_
      refine dg_calli hS hA1 hA (va_runV (As := [.int 0, .int 9]) (rest := []) F (c_rd_takeNumber l g D o S_4 0 9 en kd vl y_5 f_y_5 (by omega) ke ((congrFun ((m_4.2 211 _ sX_211 (dk_dq rfl)).1.trans (m_1.2 211 _ sX_211 (dk_dq rfl)).1) _).trans f_ke) (by omega) (by omega) (fun k9 h9 => (congrFun ((m_4.2 211 _ sX_211 (dk_dq rfl)).1.trans (m_1.2 211 _ sX_211 (dk_dq rfl)).1) k9).trans (hkd k9 h9)) (fun k9 h9 => (congrFun ((m_4.2 213 _ sX_213 (dk_dq rfl)).1.trans (m_1.2 213 _ sX_213 (dk_dq rfl)).1) k9).trans (hvl k9 h9)) I_4 H.size) (cwV 2 hts (bw_V wB_49 wB_50 wB_51 wB_24 wB_48) rfl rfl rfl (by decide +kernel) ⟨Nat.le_of_ble_eq_true rfl, Nat.le_of_ble_eq_true rfl⟩) (dg_preV sX_209 rfl K ST hP hS hA1 hA) rfl rfl hl.1 rfl (lv_room (Nat.le_of_ble_eq_true rfl)) dX6_readGrade_18 ⟨Nat.le_of_ble_eq_true rfl, Nat.le_of_ble_eq_true rfl⟩) (fun x_10 S_11 hw_11 H locs hP hS => ?_)
      obtain ⟨I_11, m_11, w_11_0, w_11_1, w_11_2, -⟩ := hw_11
      have M_11 := dg_sm.tr M_4 m_11 (dk_dq rfl) (dk_dq rfl)
      have hz_12 : (0 : Int32).toInt = 0 := by decide +kernel
      have hz_13 : (9 : Int32).toInt = 9 := by decide +kernel
      have w_11_0 : 0 ≤ (x_10).toInt ∧ (x_10).toInt ≤ 1 := w_11_0
      obtain ⟨y_14, f_y_14, w_11_1⟩ := w_11_1
      have w_11_1 : (x_10).toInt = 1 → (y_14).toInt = (vl (y_5 : Int32).toNatClampNeg).toInt ∧ ((0 : Int32)).toInt ≤ (y_14).toInt ∧ (y_14).toInt ≤ ((9 : Int32)).toInt := w_11_1
      obtain ⟨y_15, f_y_15, w_11_2⟩ := w_11_2
      have w_11_2 : (y_15).toInt ≤ (en).toInt ∧ g_ans x_10 (y_num kd vl ((0 : Int32)).toInt ((9 : Int32)).toInt (y_5 : Int32).toNatClampNeg) (y_15 : Int32).toNatClampNeg := w_11_2
      have b_y_15 : 0 ≤ (y_15).toInt ∧ (y_15).toInt ≤ 1600 := dg_I.intb (lo := 0) (hi := 1600) I_11 sX_209 (by decide +kernel) f_y_15
      refine lv_if_ne (tgt := 26) hx hb dX6_readGrade_21 (dk_dq rfl) (fun c_16 => ?_) (fun c_16 => ?_)
      · as_aux_lemma =>
          have jc_16 := dk_neqc (k := 0) (by decide +kernel) c_16
          have qw_11_2 : y_num kd vl 0 9 (y_5 : Int32).toNatClampNeg = some (y_15 : Int32).toNatClampNeg := by have h9 := w_11_2.2.1 (by omega); rw [show (0 : Int32).toInt = 0 from by decide +kernel, show (9 : Int32).toInt = 9 from by decide +kernel] at h9; exact h9
          have nq_y_15 : (y_15 : Int32).toNatClampNeg = (y_5 : Int32).toNatClampNeg + 1 := by have h9 := (y_num_o qw_11_2).2.2.2; omega
          have qw_11_2k : y_num kd vl 0 9 (y_5 : Int32).toNatClampNeg = some ((y_5 : Int32).toNatClampNeg + 1) := by rw [qw_11_2, nq_y_15]
          refine lv_aload_n hx hb dX6_readGrade_26 rfl (lv_at hl 1 rfl) ?_
          refine dg_get (C := RX6) (T := TX6) (N := 8) hx hb hts (fun w h => bw_mem (wU_X6 w h)) hown K hP sX_209 rfl 3 (dk_dq rfl) (hts _ (bw_mem wB_38)) (fun _ h9 => h9) (v := .ref (o + gd)) (((m_11.1 209 3 _ sX_209 (dk_dq rfl)).trans ((m_4.1 209 3 _ sX_209 (dk_dq rfl)).trans (m_1.1 209 3 _ sX_209 (dk_dq rfl)))).trans f_gd) dX6_readGrade_27 ?_
          refine dg_get (C := RX2) (T := TX2) (N := 19) hx hb hts (fun w h => bw_mem (wU_X2 w h)) hown K hP (rX_0 gd hk_gd) rfl 5 (dk_dq rfl) (hts _ (bw_mem wB_64)) (fun _ h9 => h9) (v := .ref (o + (gd + 1))) (show S_11.1 gd 5 = .ref (o + (gd + 1)) from dg_I.rel (d := 1) I_11 (rX_0 gd hk_gd) (by decide +kernel)) dX6_readGrade_30 ?_
          refine lv_iload_n hx hb dX6_readGrade_33 rfl (lv_at hl 0 rfl) ?_
          refine lv_aload_n hx hb dX6_readGrade_34 rfl (lv_at hl 1 rfl) ?_
          refine dg_get (C := RX6) (T := TX6) (N := 8) hx hb hts (fun w h => bw_mem (wU_X6 w h)) hown K hP sX_209 rfl 5 (dk_dq rfl) (hts _ (bw_mem wB_41)) (fun _ h9 => h9) (v := .int y_14) f_y_14 dX6_readGrade_35 ?_
          have hin_17 : vp_in x_3 72 := (dk_inv2 (by omega))
          refine dg_iast hx hb K hP hS hA1 (rX_1 gd hk_gd) hin_17 dX6_readGrade_38 (fun S_18 e_18 H locs hP hS => ?_)
          have I_18 := dg_I.ufu (lo := 0) (hi := 9) I_11 e_18 (rX_1 gd hk_gd) (by decide +kernel) (show 0 ≤ (y_14).toInt ∧ (y_14).toInt ≤ 9 from (by omega))
          have M_18 := dg_sm.uf M_11 e_18 (rX_1 gd hk_gd) (dk_dq rfl)
          have GO_18 := GOX.uf (GOX.keep (GOX.keep (GOX.keep GO m_1 (dk_dq rfl) (dk_dq rfl)) m_4 (dk_dq rfl) (dk_dq rfl)) m_11 (dk_dq rfl) (dk_dq rfl)) hk_gd hd0 (i := 1) (dk_dq rfl) e_18
          refine lv_iconst (v := 1) hx hb dX6_readGrade_39 (by decide +kernel) ?_
          have hz_19 : (1 : Int32).toInt = 1 := by decide +kernel
          have hz_20 : (1 : Int32).toInt = 1 := by decide +kernel
          have hz_21 : (1 : Int32).toInt = 1 := by decide +kernel
          refine W.widen (k := 0) (n := 0) (Nat.le_of_ble_eq_true rfl) (Nat.le_of_ble_eq_true rfl) ?_
          exact dg_iret hx hb hr hlocks (by decide +kernel) hP hS ⟨I_18, M_18, (by decide +kernel), (m_hid.mk (fun _ => ⟨y_14, (x_3 : Int32).toNatClampNeg, by have h9_0 := (w_11_1 (by omega)).1; rw [nr_y_5] at h9_0; (try simp only [Nat.add_assoc, Nat.reduceAdd] at h9_0); omega, by have c9 := w_4_1 (by omega); rw [nq_y_2] at c9; (try simp only [Nat.add_assoc, Nat.reduceAdd] at c9); have h8 := dk_clN x_3; omega, by have h8 := dk_clN x_3; omega, by rw [dg_uf_at e_18, ((m_11.2 (gd + 1) _ (rX_1 gd hk_gd) (dk_dq rfl)).1.trans ((m_4.2 (gd + 1) _ (rX_1 gd hk_gd) (dk_dq rfl)).1.trans (m_1.2 (gd + 1) _ (rX_1 gd hk_gd) (dk_dq rfl)).1))]⟩)), ⟨y_15, ((dg_uf_F e_18 209 4).trans f_y_15), ⟨by omega, g_ans.y (by omega) (by simp [nq_y_2, qw_4_2, nq_y_15, qw_11_2k])⟩⟩, GO_18, trivial⟩ dX6_readGrade_40
      · have jc_16 := dk_eqc (k := 0) (by decide +kernel) c_16
        have qw_11_2 : y_num kd vl 0 9 (y_5 : Int32).toNatClampNeg = none := by have h9 := w_11_2.2.2 (by omega); rw [show (0 : Int32).toInt = 0 from by decide +kernel, show (9 : Int32).toInt = 9 from by decide +kernel] at h9; exact h9
        refine lv_iconst (v := 0) hx hb dX6_readGrade_24 (by decide +kernel) ?_
        have hz_22 : (0 : Int32).toInt = 0 := by decide +kernel
        have hz_23 : (0 : Int32).toInt = 0 := by decide +kernel
        have hz_24 : (0 : Int32).toInt = 0 := by decide +kernel
        refine W.widen (k := 0) (n := 0) (Nat.le_of_ble_eq_true rfl) (Nat.le_of_ble_eq_true rfl) ?_
        exact dg_iret hx hb hr hlocks (by decide +kernel) hP hS ⟨I_11, M_11, (by decide +kernel), (m_hid.mk (fun q9 => absurd q9 (by omega))), ⟨y_15, f_y_15, ⟨by omega, g_ans.n (by omega) (by simp [nq_y_2, qw_4_2, qw_11_2])⟩⟩, (GOX.keep (GOX.keep (GOX.keep GO m_1 (dk_dq rfl) (dk_dq rfl)) m_4 (dk_dq rfl) (dk_dq rfl)) m_11 (dk_dq rfl) (dk_dq rfl)), trivial⟩ dX6_readGrade_25
set_option maxHeartbeats 8000000 in
set_option maxRecDepth 100000 in
theorem c_rd_readMiner (l : Launch) (g : Nat → ClassId) (D : va_G) (o : Nat) (S : dg_S) (en : Int32) (kd : Nat → Int32) (vl : Nat → Int32) (fm : Nat → Int32) (fo : Nat → Int32) (S0 : dg_S) (d0 : Nat) (gd : Nat) (hk_gd : rX gd) (f_gd : S.1 209 3 = .ref (o + gd)) (n0 : Int32) (f_n0 : S.1 209 4 = .int n0) (b_n0 : 0 ≤ (n0).toInt ∧ (n0).toInt ≤ 1600) (mi : Int32) (f_mi : S.1 gd 6 = .int mi) (b_mi : 0 ≤ (mi).toInt ∧ (mi).toInt ≤ 6) (od : Int32) (f_od : S.1 gd 11 = .int od) (b_od : 0 ≤ (od).toInt ∧ (od).toInt ≤ 5) (ke : Int32) (f_ke : S.2.1 211 (en : Int32).toNatClampNeg = ke) (b_ke : 0 ≤ (ke).toInt ∧ (ke).toInt ≤ 0) (hne : (n0).toInt ≤ (en).toInt ∧ (en).toInt ≤ 1600 ∧ 0 ≤ (en).toInt) (hkd : ∀ k9 : Nat, k9 ≤ (en : Int32).toNatClampNeg → S.2.1 211 k9 = kd k9) (hvl : ∀ k9 : Nat, k9 ≤ (en : Int32).toNatClampNeg → S.2.1 213 k9 = vl k9) (hkn : (kd (n0 : Int32).toNatClampNeg).toInt ≠ 0) (hfm : S.2.1 (gd + 2) = fm) (hfo : S.2.1 (gd + 5) = fo) (hd0 : d0 ≠ gd) (GO : GOX S0 d0 S) (I : CX o S) (sz : Nat) : Met l yX6_readMiner (bw yX6_readMiner cX6_readMiner 1 (some .boolean)) ({ frames := 4, cells := 0, slots := 0, locals := 96 } : Room) (dk_Pc g D (dg_w g shX o rfX S) sz [.ref (o + 209)]) (va_Qi (fun (r : Int32) S' => CX o S' ∧ dg_sm shX [(19, 6), (31, 0), (31, 1), (31, 4), (31, 5)] [21] S S' ∧ (0 ≤ (r).toInt ∧ (r).toInt ≤ 1) ∧ (∃ y9 : Int32, S'.1 gd 6 = .int y9 ∧ ((r).toInt = 1 → (y9).toInt = (mi).toInt + 1)) ∧ ((r).toInt = 1 → ∃ v9 : Int32, v9.toInt = (vl ((n0 : Int32).toNatClampNeg + 1)).toInt ∧ S'.2.1 (gd + 2) = upd fm (mi : Int32).toNatClampNeg v9) ∧ (∃ y9 : Int32, S'.1 209 4 = .int y9 ∧ ((y9).toInt ≤ (en).toInt ∧ g_ans r (if (mi).toInt = 6 then none else y_new kd vl (y_nm fm (mi : Int32).toNatClampNeg) (y_nm fo (od : Int32).toNatClampNeg) ((n0 : Int32).toNatClampNeg + 1)) (y9 : Int32).toNatClampNeg)) ∧ GOX S0 d0 S' ∧ True) (dg_B g D shX o rfX) (dg_A o shX.length sz)) 0 0 (dg_A o shX.length sz) := by
  refine dg_met (cc := cX6_readMiner) (maxL := 1) (ret := (some .boolean)) (dk_dq rfl) rfl (Nat.le_of_ble_eq_true rfl) ?_
  intro p e s m args below meth c A hAe harg hx hb hr hml hts hown hlocks hin hP K hS hA1 hA ST hsz ls hl
  rw [← hAe]
  have F : CallFix p m c cX6_readMiner 1 s args (bw yX6_readMiner cX6_readMiner 1 (some .boolean)) RX6 := ⟨hx, hb, hml, hown, hts⟩
  have hl : lv_has ls 1 [(0, .ref (o + 209))] := hl
  have M_0 : dg_sm shX [(19, 6), (31, 0), (31, 1), (31, 4), (31, 5)] [21] S S := dg_sm.rf
  refine lv_aload_n hx hb dX6_readMiner_0 rfl (lv_at hl 0 rfl) ?_
  refine dg_get (C := RX6) (T := TX6) (N := 8) hx hb hts (fun w h => bw_mem (wU_X6 w h)) hown K hP sX_209 rfl 3 (dk_dq rfl) (hts _ (bw_mem wB_38)) (fun _ h9 => h9) (v := .ref (o + gd)) f_gd dX6_readMiner_1 ?_
  refine dg_get (C := RX2) (T := TX2) (N := 19) hx hb hts (fun w h => bw_mem (wU_X2 w h)) hown K hP (rX_0 gd hk_gd) rfl 6 (dk_dq rfl) (hts _ (bw_mem wB_65)) (fun _ h9 => h9) (v := .int mi) f_mi dX6_readMiner_4 ?_
  refine lv_bipush (v := 6) hx hb dX6_readMiner_7 (by decide +kernel) ?_
  refine lv_icmp_ne (tgt := 19) hx hb dX6_readMiner_9 (dk_dq rfl) (fun c_1 => ?_) (fun c_1 => ?_)
  · as_aux_lemma =>
      have jc_1 := dk_neqc (k := 6) (by decide +kernel) c_1
      refine lv_aload_n hx hb dX6_readMiner_19 rfl (lv_at hl 0 rfl) ?_
      refine dg_callv hS hA1 hA (va_runV (As := []) (rest := []) F (c_rd_pass l g D o S en kd vl n0 f_n0 (by omega) ke f_ke (by omega) (by omega) hkd hvl I s.heap.size) (cwV 0 hts (bw_V wB_26 wB_27 wB_28 wB_24 wB_25) rfl rfl rfl (by decide +kernel) ⟨Nat.le_of_ble_eq_true rfl, Nat.le_of_ble_eq_true rfl⟩) (dg_preV sX_209 rfl K ST hP hS hA1 hA) rfl rfl hl.1 rfl (lv_room (Nat.le_of_ble_eq_true rfl)) dX6_readMiner_20 ⟨Nat.le_of_ble_eq_true rfl, Nat.le_of_ble_eq_true rfl⟩) (fun S_2 hw_2 H locs hP hS => ?_)
      obtain ⟨I_2, m_2, w_2_0, -⟩ := hw_2
      have M_2 := dg_sm.tr M_0 m_2 (dk_dq rfl) (dk_dq rfl)
      obtain ⟨y_3, f_y_3, w_2_0⟩ := w_2_0
      have w_2_0 : (y_3).toInt ≤ (en).toInt ∧ ((kd (n0 : Int32).toNatClampNeg).toInt ≠ 0 → (y_3 : Int32).toNatClampNeg = (n0 : Int32).toNatClampNeg + 1) := w_2_0
      have b_y_3 : 0 ≤ (y_3).toInt ∧ (y_3).toInt ≤ 1600 := dg_I.intb (lo := 0) (hi := 1600) I_2 sX_209 (by decide +kernel) f_y_3
      have nq_y_3 : (y_3 : Int32).toNatClampNeg = (n0 : Int32).toNatClampNeg + 1 := by have h9 := w_2_0.2 hkn; omega
      refine lv_aload_n hx hb dX6_readMiner_23 rfl (lv_at hl 0 rfl) ?_
      refine dg_calli hS hA1 hA (va_runV (As := []) (rest := []) F (c_rd_takeNewName l g D o S_2 en kd vl fm fo gd hk_gd ((m_2.1 209 3 _ sX_209 (dk_dq rfl)).trans f_gd) y_3 f_y_3 (by omega) mi ((m_2.1 gd 6 _ (rX_0 gd hk_gd) (dk_dq rfl)).trans f_mi) (by omega) od ((m_2.1 gd 11 _ (rX_0 gd hk_gd) (dk_dq rfl)).trans f_od) (by omega) ke ((congrFun (m_2.2 211 _ sX_211 (dk_dq rfl)).1 _).trans f_ke) (by omega) (by omega) (fun k9 h9 => (congrFun (m_2.2 211 _ sX_211 (dk_dq rfl)).1 k9).trans (hkd k9 h9)) (fun k9 h9 => (congrFun (m_2.2 213 _ sX_213 (dk_dq rfl)).1 k9).trans (hvl k9 h9)) ((m_2.2 (gd + 2) _ (rX_2 gd hk_gd) (dk_dq rfl)).1.trans hfm) ((m_2.2 (gd + 5) _ (rX_5 gd hk_gd) (dk_dq rfl)).1.trans hfo) I_2 H.size) (cwV 0 hts (bw_V wB_67 wB_68 wB_69 wB_24 wB_66) rfl rfl rfl (by decide +kernel) ⟨Nat.le_of_ble_eq_true rfl, Nat.le_of_ble_eq_true rfl⟩) (dg_preV sX_209 rfl K ST hP hS hA1 hA) rfl rfl hl.1 rfl (lv_room (Nat.le_of_ble_eq_true rfl)) dX6_readMiner_24 ⟨Nat.le_of_ble_eq_true rfl, Nat.le_of_ble_eq_true rfl⟩) (fun x_4 S_5 hw_5 H locs hP hS => ?_)
      obtain ⟨I_5, m_5, w_5_0, w_5_1, w_5_2, -⟩ := hw_5
      have M_5 := dg_sm.tr M_2 m_5 (dk_dq rfl) (dk_dq rfl)
      have w_5_0 : 0 ≤ (x_4).toInt ∧ (x_4).toInt ≤ 1 := w_5_0
      obtain ⟨y_6, f_y_6, w_5_1⟩ := w_5_1
      have w_5_1 : (x_4).toInt = 1 → (y_6).toInt = (vl (y_3 : Int32).toNatClampNeg).toInt := w_5_1
      obtain ⟨y_7, f_y_7, w_5_2⟩ := w_5_2
      have w_5_2 : (y_7).toInt ≤ (en).toInt ∧ g_ans x_4 (y_new kd vl (y_nm fm (mi : Int32).toNatClampNeg) (y_nm fo (od : Int32).toNatClampNeg) (y_3 : Int32).toNatClampNeg) (y_7 : Int32).toNatClampNeg := w_5_2
      have b_y_7 : 0 ≤ (y_7).toInt ∧ (y_7).toInt ≤ 1600 := dg_I.intb (lo := 0) (hi := 1600) I_5 sX_209 (by decide +kernel) f_y_7
      refine lv_if_ne (tgt := 32) hx hb dX6_readMiner_27 (dk_dq rfl) (fun c_8 => ?_) (fun c_8 => ?_)
      · as_aux_lemma =>
          have jc_8 := dk_neqc (k := 0) (by decide +kernel) c_8
          have qw_5_2 : y_new kd vl (y_nm fm (mi : Int32).toNatClampNeg) (y_nm fo (od : Int32).toNatClampNeg) ((n0 : Int32).toNatClampNeg + 1) = some (y_7 : Int32).toNatClampNeg := by have h9 := w_5_2.2.1 (by omega); rw [nq_y_3] at h9; exact h9
          have nq_y_7 : (y_7 : Int32).toNatClampNeg = (n0 : Int32).toNatClampNeg + 2 := by have h9 := (y_new_o qw_5_2).2; omega
          have qw_5_2k : y_new kd vl (y_nm fm (mi : Int32).toNatClampNeg) (y_nm fo (od : Int32).toNatClampNeg) ((n0 : Int32).toNatClampNeg + 1) = some ((n0 : Int32).toNatClampNeg + 2) := by rw [qw_5_2, nq_y_7]
          refine lv_aload_n hx hb dX6_readMiner_32 rfl (lv_at hl 0 rfl) ?_
          refine dg_get (C := RX6) (T := TX6) (N := 8) hx hb hts (fun w h => bw_mem (wU_X6 w h)) hown K hP sX_209 rfl 3 (dk_dq rfl) (hts _ (bw_mem wB_38)) (fun _ h9 => h9) (v := .ref (o + gd)) (((m_5.1 209 3 _ sX_209 (dk_dq rfl)).trans (m_2.1 209 3 _ sX_209 (dk_dq rfl))).trans f_gd) dX6_readMiner_33 ?_
          refine dg_get (C := RX2) (T := TX2) (N := 19) hx hb hts (fun w h => bw_mem (wU_X2 w h)) hown K hP (rX_0 gd hk_gd) rfl 7 (dk_dq rfl) (hts _ (bw_mem wB_70)) (fun _ h9 => h9) (v := .ref (o + (gd + 2))) (show S_5.1 gd 7 = .ref (o + (gd + 2)) from dg_I.rel (d := 2) I_5 (rX_0 gd hk_gd) (by decide +kernel)) dX6_readMiner_36 ?_
          refine lv_aload_n hx hb dX6_readMiner_39 rfl (lv_at hl 0 rfl) ?_
          refine dg_get (C := RX6) (T := TX6) (N := 8) hx hb hts (fun w h => bw_mem (wU_X6 w h)) hown K hP sX_209 rfl 3 (dk_dq rfl) (hts _ (bw_mem wB_38)) (fun _ h9 => h9) (v := .ref (o + gd)) (((m_5.1 209 3 _ sX_209 (dk_dq rfl)).trans (m_2.1 209 3 _ sX_209 (dk_dq rfl))).trans f_gd) dX6_readMiner_40 ?_
          refine dg_get (C := RX2) (T := TX2) (N := 19) hx hb hts (fun w h => bw_mem (wU_X2 w h)) hown K hP (rX_0 gd hk_gd) rfl 6 (dk_dq rfl) (hts _ (bw_mem wB_65)) (fun _ h9 => h9) (v := .int mi) (((m_5.1 gd 6 _ (rX_0 gd hk_gd) (dk_dq rfl)).trans (m_2.1 gd 6 _ (rX_0 gd hk_gd) (dk_dq rfl))).trans f_mi) dX6_readMiner_43 ?_
          refine lv_aload_n hx hb dX6_readMiner_46 rfl (lv_at hl 0 rfl) ?_
          refine dg_get (C := RX6) (T := TX6) (N := 8) hx hb hts (fun w h => bw_mem (wU_X6 w h)) hown K hP sX_209 rfl 5 (dk_dq rfl) (hts _ (bw_mem wB_41)) (fun _ h9 => h9) (v := .int y_6) f_y_6 dX6_readMiner_47 ?_
          have hin_9 : vp_in mi 6 := (dk_inv2 (by omega))
          refine dg_iast hx hb K hP hS hA1 (rX_2 gd hk_gd) hin_9 dX6_readMiner_50 (fun S_10 e_10 H locs hP hS => ?_)
          have I_10 := dg_I.uf0 I_5 e_10 (rX_2 gd hk_gd) (by decide +kernel)
          have M_10 := dg_sm.uf M_5 e_10 (rX_2 gd hk_gd) (dk_dq rfl)
          have GO_10 := GOX.uf (GOX.keep (GOX.keep GO m_2 (dk_dq rfl) (dk_dq rfl)) m_5 (dk_dq rfl) (dk_dq rfl)) hk_gd hd0 (i := 2) (dk_dq rfl) e_10
          refine lv_aload_n hx hb dX6_readMiner_51 rfl (lv_at hl 0 rfl) ?_
          refine dg_get (C := RX6) (T := TX6) (N := 8) hx hb hts (fun w h => bw_mem (wU_X6 w h)) hown K hP sX_209 rfl 3 (dk_dq rfl) (hts _ (bw_mem wB_38)) (fun _ h9 => h9) (v := .ref (o + gd)) (((dg_uf_F e_10 209 3).trans ((m_5.1 209 3 _ sX_209 (dk_dq rfl)).trans (m_2.1 209 3 _ sX_209 (dk_dq rfl)))).trans f_gd) dX6_readMiner_52 ?_
          refine lv_dup hx hb dX6_readMiner_55 rfl ?_
          refine dg_get (C := RX2) (T := TX2) (N := 19) hx hb hts (fun w h => bw_mem (wU_X2 w h)) hown K hP (rX_0 gd hk_gd) rfl 6 (dk_dq rfl) (hts _ (bw_mem wB_65)) (fun _ h9 => h9) (v := .int mi) (((dg_uf_F e_10 gd 6).trans ((m_5.1 gd 6 _ (rX_0 gd hk_gd) (dk_dq rfl)).trans (m_2.1 gd 6 _ (rX_0 gd hk_gd) (dk_dq rfl)))).trans f_mi) dX6_readMiner_56 ?_
          refine lv_iconst (v := 1) hx hb dX6_readMiner_59 (by decide +kernel) ?_
          refine lv_iadd hx hb dX6_readMiner_60 ?_
          refine lv_topi (fun x_11 ex_11 => ?_)
          have jx_11 : (x_11).toInt = (mi).toInt + 1 := by rw [ex_11]; exact dk_addT2 rfl (by decide +kernel) (by omega)
          refine dg_put (ci := 2) (v := .int x_11) (ty := tyX2 6) (C := RX2) (T := TX2) (N := 19) hx hb hts (fun w h => bw_mem (wU_X2 w h)) tyX2 tyX2_ok nmX2 hown K hP hS hA1 (rX_0 gd hk_gd) rfl 6 (dk_dq rfl) (hts _ (bw_mem wB_65)) (fun _ h9 => h9) rfl (by decide +kernel) rfl rfl dX6_readMiner_61 (fun S_12 e_12 H locs hP hS => ?_)
          have I_12 := dg_I.uFi (lo := 0) (hi := 6) I_10 e_12 (rX_0 gd hk_gd) (by decide +kernel) (show 0 ≤ (x_11).toInt ∧ (x_11).toInt ≤ 6 from (by omega))
          have M_12 := dg_sm.uF M_10 e_12 (rX_0 gd hk_gd) (dk_dq rfl)
          have GO_12 := GOX.uF GO_10 hd0 e_12
          refine lv_iconst (v := 1) hx hb dX6_readMiner_64 (by decide +kernel) ?_
          have hz_13 : (1 : Int32).toInt = 1 := by decide +kernel
          have hz_14 : (1 : Int32).toInt = 1 := by decide +kernel
          have hz_15 : (1 : Int32).toInt = 1 := by decide +kernel
          have hz_16 : (1 : Int32).toInt = 1 := by decide +kernel
          have ql_mi : ¬ (mi).toInt = 6 := by omega
          refine W.widen (k := 0) (n := 0) (Nat.le_of_ble_eq_true rfl) (Nat.le_of_ble_eq_true rfl) ?_
          exact dg_iret hx hb hr hlocks (by decide +kernel) hP hS ⟨I_12, M_12, (by decide +kernel), ⟨x_11, (dg_uF_at e_12), (by omega)⟩, (fun _ => ⟨y_6, by have h9 := w_5_1 (by omega); rw [nq_y_3] at h9; omega, by rw [(dg_uF_f e_12 (gd + 2)), dg_uf_at e_10, ((m_5.2 (gd + 2) _ (rX_2 gd hk_gd) (dk_dq rfl)).1.trans (m_2.2 (gd + 2) _ (rX_2 gd hk_gd) (dk_dq rfl)).1), hfm]⟩), ⟨y_7, (((dg_uF_ne e_12 (fun z => absurd z.2 (dk_dq rfl))).trans (dg_uf_F e_10 209 4)).trans f_y_7), ⟨by omega, g_ans.y (by omega) (by simp [nq_y_3, nq_y_7, qw_5_2k, ql_mi])⟩⟩, GO_12, trivial⟩ dX6_readMiner_65
      · have jc_8 := dk_eqc (k := 0) (by decide +kernel) c_8
        have qw_5_2 : y_new kd vl (y_nm fm (mi : Int32).toNatClampNeg) (y_nm fo (od : Int32).toNatClampNeg) ((n0 : Int32).toNatClampNeg + 1) = none := by have h9 := w_5_2.2.2 (by omega); rw [nq_y_3] at h9; exact h9
        refine lv_iconst (v := 0) hx hb dX6_readMiner_30 (by decide +kernel) ?_
        have hz_17 : (0 : Int32).toInt = 0 := by decide +kernel
        have hz_18 : (0 : Int32).toInt = 0 := by decide +kernel
        have hz_19 : (0 : Int32).toInt = 0 := by decide +kernel
        have hz_20 : (0 : Int32).toInt = 0 := by decide +kernel
        have ql_mi : ¬ (mi).toInt = 6 := by omega
        refine W.widen (k := 0) (n := 0) (Nat.le_of_ble_eq_true rfl) (Nat.le_of_ble_eq_true rfl) ?_
        exact dg_iret hx hb hr hlocks (by decide +kernel) hP hS ⟨I_5, M_5, (by decide +kernel), ⟨mi, (((m_5.1 gd 6 _ (rX_0 gd hk_gd) (dk_dq rfl)).trans (m_2.1 gd 6 _ (rX_0 gd hk_gd) (dk_dq rfl))).trans f_mi), (by omega)⟩, (fun q9 => absurd q9 (by omega)), ⟨y_7, f_y_7, ⟨by omega, g_ans.n (by omega) (by simp [nq_y_3, qw_5_2, ql_mi])⟩⟩, (GOX.keep (GOX.keep GO m_2 (dk_dq rfl) (dk_dq rfl)) m_5 (dk_dq rfl) (dk_dq rfl)), trivial⟩ dX6_readMiner_31
  · have jc_1 := dk_eqc (k := 6) (by decide +kernel) c_1
    refine lv_aload_n hx hb dX6_readMiner_12 rfl (lv_at hl 0 rfl) ?_
    refine lv_bipush (v := 6) hx hb dX6_readMiner_13 (by decide +kernel) ?_
    refine dg_calli hS hA1 hA (va_runV (As := [.int 6]) (rest := []) F (c_rd_fail l g D o S 6 en n0 f_n0 (by omega) ke f_ke (by omega) (by omega) I s.heap.size) (cwV 1 hts (bw_V wB_30 wB_31 wB_32 wB_24 wB_29) rfl rfl rfl (by decide +kernel) ⟨Nat.le_of_ble_eq_true rfl, Nat.le_of_ble_eq_true rfl⟩) (dg_preV sX_209 rfl K ST hP hS hA1 hA) rfl rfl hl.1 rfl (lv_room (Nat.le_of_ble_eq_true rfl)) dX6_readMiner_15 ⟨Nat.le_of_ble_eq_true rfl, Nat.le_of_ble_eq_true rfl⟩) (fun x_21 S_22 hw_22 H locs hP hS => ?_)
    obtain ⟨I_22, m_22, w_22_0, -⟩ := hw_22
    have M_22 := dg_sm.tr M_0 m_22 (dk_dq rfl) (dk_dq rfl)
    have w_22_0 : 0 ≤ (x_21).toInt ∧ (x_21).toInt ≤ 0 := w_22_0
    have ql_mi : (mi).toInt = 6 := by omega
    refine W.widen (k := 0) (n := 0) (Nat.le_of_ble_eq_true rfl) (Nat.le_of_ble_eq_true rfl) ?_
    exact dg_iret hx hb hr hlocks (dk_znar2 (by omega)) hP hS ⟨I_22, M_22, (by omega), ⟨mi, ((m_22.1 gd 6 _ (rX_0 gd hk_gd) (dk_dq rfl)).trans f_mi), (by omega)⟩, (fun q9 => absurd q9 (by omega)), ⟨n0, ((m_22.1 209 4 _ sX_209 (dk_dq rfl)).trans f_n0), ⟨by omega, g_ans.n (by omega) (by simp [ql_mi])⟩⟩, (GOX.keep GO m_22 (dk_dq rfl) (dk_dq rfl)), trivial⟩ dX6_readMiner_18
set_option maxHeartbeats 8000000 in
set_option maxRecDepth 100000 in
theorem c_rd_readDig (l : Launch) (g : Nat → ClassId) (D : va_G) (o : Nat) (S : dg_S) (en : Int32) (kd : Nat → Int32) (vl : Nat → Int32) (fm : Nat → Int32) (S0 : dg_S) (d0 : Nat) (gd : Nat) (hk_gd : rX gd) (f_gd : S.1 209 3 = .ref (o + gd)) (n0 : Int32) (f_n0 : S.1 209 4 = .int n0) (b_n0 : 0 ≤ (n0).toInt ∧ (n0).toInt ≤ 1600) (cx : Int32) (f_cx : S.1 gd 0 = .int cx) (b_cx : 0 ≤ (cx).toInt ∧ (cx).toInt ≤ 7) (ry : Int32) (f_ry : S.1 gd 1 = .int ry) (b_ry : 0 ≤ (ry).toInt ∧ (ry).toInt ≤ 7) (mi : Int32) (f_mi : S.1 gd 6 = .int mi) (b_mi : 0 ≤ (mi).toInt ∧ (mi).toInt ≤ 6) (pl : Int32) (f_pl : S.1 gd 8 = .int pl) (b_pl : 0 ≤ (pl).toInt ∧ (pl).toInt ≤ 16) (ke : Int32) (f_ke : S.2.1 211 (en : Int32).toNatClampNeg = ke) (b_ke : 0 ≤ (ke).toInt ∧ (ke).toInt ≤ 0) (hne : (n0).toInt ≤ (en).toInt ∧ (en).toInt ≤ 1600 ∧ 0 ≤ (en).toInt) (hkd : ∀ k9 : Nat, k9 ≤ (en : Int32).toNatClampNeg → S.2.1 211 k9 = kd k9) (hvl : ∀ k9 : Nat, k9 ≤ (en : Int32).toNatClampNeg → S.2.1 213 k9 = vl k9) (hkn : (kd (n0 : Int32).toNatClampNeg).toInt ≠ 0) (hfm : S.2.1 (gd + 2) = fm) (hd0 : d0 ≠ gd) (GO : GOX S0 d0 S) (I : CX o S) (sz : Nat) : Met l yX6_readDig (bw yX6_readDig cX6_readDig 3 (some .boolean)) ({ frames := 4, cells := 0, slots := 0, locals := 97 } : Room) (dk_Pc g D (dg_w g shX o rfX S) sz [.ref (o + 209)]) (va_Qi (fun (r : Int32) S' => CX o S' ∧ dg_sm shX [(19, 8), (31, 0), (31, 1), (31, 4), (31, 5)] [22, 23] S S' ∧ (0 ≤ (r).toInt ∧ (r).toInt ≤ 1) ∧ (m_hid ((r).toInt = 1 → ∃ v9 w9 : Int32, v9.toInt = z_ix (y_nm fm (mi : Int32).toNatClampNeg) (vl ((n0 : Int32).toNatClampNeg + 1)).toInt ∧ w9.toInt = 8 * (vl ((n0 : Int32).toNatClampNeg + 4)).toInt + (vl ((n0 : Int32).toNatClampNeg + 3)).toInt + 8 ∧ S'.2.1 (gd + 3) = upd (S.2.1 (gd + 3)) (pl : Int32).toNatClampNeg v9 ∧ S'.2.1 (gd + 4) = upd (S.2.1 (gd + 4)) (pl : Int32).toNatClampNeg w9)) ∧ (∃ y9 : Int32, S'.1 gd 8 = .int y9 ∧ ((r).toInt = 1 → (y9).toInt = (pl).toInt + 1)) ∧ (∃ y9 : Int32, S'.1 209 4 = .int y9 ∧ ((y9).toInt ≤ (en).toInt ∧ g_ans r (if (pl).toInt = 16 then none else ((y_old kd vl (y_nm fm (mi : Int32).toNatClampNeg) ((n0 : Int32).toNatClampNeg + 1)).bind fun k1 => (y_own kd vl 8 k1).bind (y_cell kd vl ((cx).toInt, (ry).toInt)))) (y9 : Int32).toNatClampNeg)) ∧ GOX S0 d0 S' ∧ True) (dg_B g D shX o rfX) (dg_A o shX.length sz)) 0 0 (dg_A o shX.length sz) := by
  refine dg_met (cc := cX6_readDig) (maxL := 3) (ret := (some .boolean)) (dk_dq rfl) rfl (Nat.le_of_ble_eq_true rfl) ?_
  intro p e s m args below meth c A hAe harg hx hb hr hml hts hown hlocks hin hP K hS hA1 hA ST hsz ls hl
  rw [← hAe]
  have F : CallFix p m c cX6_readDig 3 s args (bw yX6_readDig cX6_readDig 3 (some .boolean)) RX6 := ⟨hx, hb, hml, hown, hts⟩
  have hl : lv_has ls 3 [(0, .ref (o + 209))] := hl
  have M_0 : dg_sm shX [(19, 8), (31, 0), (31, 1), (31, 4), (31, 5)] [22, 23] S S := dg_sm.rf
  refine lv_aload_n hx hb dX6_readDig_0 rfl (lv_at hl 0 rfl) ?_
  refine dg_get (C := RX6) (T := TX6) (N := 8) hx hb hts (fun w h => bw_mem (wU_X6 w h)) hown K hP sX_209 rfl 3 (dk_dq rfl) (hts _ (bw_mem wB_38)) (fun _ h9 => h9) (v := .ref (o + gd)) f_gd dX6_readDig_1 ?_
  refine dg_get (C := RX2) (T := TX2) (N := 19) hx hb hts (fun w h => bw_mem (wU_X2 w h)) hown K hP (rX_0 gd hk_gd) rfl 8 (dk_dq rfl) (hts _ (bw_mem wB_71)) (fun _ h9 => h9) (v := .int pl) f_pl dX6_readDig_4 ?_
  refine lv_bipush (v := 16) hx hb dX6_readDig_7 (by decide +kernel) ?_
  refine lv_icmp_ne (tgt := 19) hx hb dX6_readDig_9 (dk_dq rfl) (fun c_1 => ?_) (fun c_1 => ?_)
  · as_aux_lemma =>
      have jc_1 := dk_neqc (k := 16) (by decide +kernel) c_1
      refine lv_aload_n hx hb dX6_readDig_19 rfl (lv_at hl 0 rfl) ?_
      refine dg_callv hS hA1 hA (va_runV (As := []) (rest := []) F (c_rd_pass l g D o S en kd vl n0 f_n0 (by omega) ke f_ke (by omega) (by omega) hkd hvl I s.heap.size) (cwV 0 hts (bw_V wB_26 wB_27 wB_28 wB_24 wB_25) rfl rfl rfl (by decide +kernel) ⟨Nat.le_of_ble_eq_true rfl, Nat.le_of_ble_eq_true rfl⟩) (dg_preV sX_209 rfl K ST hP hS hA1 hA) rfl rfl hl.1 rfl (lv_room (Nat.le_of_ble_eq_true rfl)) dX6_readDig_20 ⟨Nat.le_of_ble_eq_true rfl, Nat.le_of_ble_eq_true rfl⟩) (fun S_2 hw_2 H locs hP hS => ?_)
      obtain ⟨I_2, m_2, w_2_0, -⟩ := hw_2
      have M_2 := dg_sm.tr M_0 m_2 (dk_dq rfl) (dk_dq rfl)
      obtain ⟨y_3, f_y_3, w_2_0⟩ := w_2_0
      have w_2_0 : (y_3).toInt ≤ (en).toInt ∧ ((kd (n0 : Int32).toNatClampNeg).toInt ≠ 0 → (y_3 : Int32).toNatClampNeg = (n0 : Int32).toNatClampNeg + 1) := w_2_0
      have b_y_3 : 0 ≤ (y_3).toInt ∧ (y_3).toInt ≤ 1600 := dg_I.intb (lo := 0) (hi := 1600) I_2 sX_209 (by decide +kernel) f_y_3
      have nq_y_3 : (y_3 : Int32).toNatClampNeg = (n0 : Int32).toNatClampNeg + 1 := by have h9 := w_2_0.2 hkn; omega
      refine lv_aload_n hx hb dX6_readDig_23 rfl (lv_at hl 0 rfl) ?_
      refine dg_calli hS hA1 hA (va_runV (As := []) (rest := []) F (c_rd_takeMiner l g D o S_2 en kd vl fm gd hk_gd ((m_2.1 209 3 _ sX_209 (dk_dq rfl)).trans f_gd) y_3 f_y_3 (by omega) mi ((m_2.1 gd 6 _ (rX_0 gd hk_gd) (dk_dq rfl)).trans f_mi) (by omega) ke ((congrFun (m_2.2 211 _ sX_211 (dk_dq rfl)).1 _).trans f_ke) (by omega) (by omega) (fun k9 h9 => (congrFun (m_2.2 211 _ sX_211 (dk_dq rfl)).1 k9).trans (hkd k9 h9)) (fun k9 h9 => (congrFun (m_2.2 213 _ sX_213 (dk_dq rfl)).1 k9).trans (hvl k9 h9)) ((m_2.2 (gd + 2) _ (rX_2 gd hk_gd) (dk_dq rfl)).1.trans hfm) I_2 H.size) (cwV 0 hts (bw_V wB_73 wB_74 wB_75 wB_24 wB_72) rfl rfl rfl (by decide +kernel) ⟨Nat.le_of_ble_eq_true rfl, Nat.le_of_ble_eq_true rfl⟩) (dg_preV sX_209 rfl K ST hP hS hA1 hA) rfl rfl hl.1 rfl (lv_room (Nat.le_of_ble_eq_true rfl)) dX6_readDig_24 ⟨Nat.le_of_ble_eq_true rfl, Nat.le_of_ble_eq_true rfl⟩) (fun x_4 S_5 hw_5 H locs hP hS => ?_)
      obtain ⟨I_5, m_5, w_5_0, w_5_1, w_5_2, -⟩ := hw_5
      have M_5 := dg_sm.tr M_2 m_5 (dk_dq rfl) (dk_dq rfl)
      have w_5_0 : (-1) ≤ (x_4).toInt ∧ (x_4).toInt ≤ 5 := w_5_0
      have w_5_1 : (x_4).toInt ≠ -1 → (x_4).toInt = z_ix (y_nm fm (mi : Int32).toNatClampNeg) (vl (y_3 : Int32).toNatClampNeg).toInt := w_5_1
      obtain ⟨y_6, f_y_6, w_5_2⟩ := w_5_2
      have w_5_2 : (y_6).toInt ≤ (en).toInt ∧ g_an2 x_4 (y_old kd vl (y_nm fm (mi : Int32).toNatClampNeg) (y_3 : Int32).toNatClampNeg) (y_6 : Int32).toNatClampNeg := w_5_2
      have b_y_6 : 0 ≤ (y_6).toInt ∧ (y_6).toInt ≤ 1600 := dg_I.intb (lo := 0) (hi := 1600) I_5 sX_209 (by decide +kernel) f_y_6
      refine lv_istore_n (lv' := [(1, .int x_4), (0, .ref (o + 209))]) hx hb dX6_readDig_27 rfl hl (dk_dq rfl) rfl (fun ls hl => ?_)
      refine lv_iload_n hx hb dX6_readDig_28 rfl (lv_at hl 0 rfl) ?_
      refine lv_iconst (v := (-1)) hx hb dX6_readDig_29 (by decide +kernel) ?_
      refine lv_icmp_eq (tgt := 42) hx hb dX6_readDig_30 (dk_dq rfl) (fun c_7 => ?_) (fun c_7 => ?_)
      · have jc_7 := dk_eqc (k := (-1)) (by decide +kernel) c_7
        have qw_5_2 : y_old kd vl (y_nm fm (mi : Int32).toNatClampNeg) ((n0 : Int32).toNatClampNeg + 1) = none := by have h9 := w_5_2.2.2 (by omega); rw [nq_y_3] at h9; exact h9
        refine lv_iconst (v := 0) hx hb dX6_readDig_42 (by decide +kernel) ?_
        have hz_8 : (0 : Int32).toInt = 0 := by decide +kernel
        have hz_9 : (0 : Int32).toInt = 0 := by decide +kernel
        have hz_10 : (0 : Int32).toInt = 0 := by decide +kernel
        have hz_11 : (0 : Int32).toInt = 0 := by decide +kernel
        have ql_pl : ¬ (pl).toInt = 16 := by omega
        refine W.widen (k := 0) (n := 0) (Nat.le_of_ble_eq_true rfl) (Nat.le_of_ble_eq_true rfl) ?_
        exact dg_iret hx hb hr hlocks (by decide +kernel) hP hS ⟨I_5, M_5, (by decide +kernel), (m_hid.mk (fun q9 => absurd q9 (by omega))), ⟨pl, (((m_5.1 gd 8 _ (rX_0 gd hk_gd) (dk_dq rfl)).trans (m_2.1 gd 8 _ (rX_0 gd hk_gd) (dk_dq rfl))).trans f_pl), (by omega)⟩, ⟨y_6, f_y_6, ⟨by omega, g_ans.n (by omega) (by simp [nq_y_3, qw_5_2, ql_pl])⟩⟩, (GOX.keep (GOX.keep GO m_2 (dk_dq rfl) (dk_dq rfl)) m_5 (dk_dq rfl) (dk_dq rfl)), trivial⟩ dX6_readDig_43
      · as_aux_lemma =>
          have jc_7 := dk_neqc (k := (-1)) (by decide +kernel) c_7
          have qw_5_2 : y_old kd vl (y_nm fm (mi : Int32).toNatClampNeg) ((n0 : Int32).toNatClampNeg + 1) = some (y_6 : Int32).toNatClampNeg := by have h9 := w_5_2.2.1 (by omega); rw [nq_y_3] at h9; exact h9
          have nr_y_6 : (y_6 : Int32).toNatClampNeg = (n0 : Int32).toNatClampNeg + 2 := by have h9 := y_old_k qw_5_2; omega
          refine lv_aload_n hx hb dX6_readDig_33 rfl (lv_at hl 1 rfl) ?_
          refine lv_bipush (v := 8) hx hb dX6_readDig_34 (by decide +kernel) ?_
          refine dg_calli hS hA1 hA (va_runV (As := [.int 8]) (rest := []) F (c_rd_takeOwn l g D o S_5 8 en kd vl y_6 f_y_6 (by omega) ke ((congrFun ((m_5.2 211 _ sX_211 (dk_dq rfl)).1.trans (m_2.2 211 _ sX_211 (dk_dq rfl)).1) _).trans f_ke) (by omega) (by omega) (fun k9 h9 => (congrFun ((m_5.2 211 _ sX_211 (dk_dq rfl)).1.trans (m_2.2 211 _ sX_211 (dk_dq rfl)).1) k9).trans (hkd k9 h9)) (fun k9 h9 => (congrFun ((m_5.2 213 _ sX_213 (dk_dq rfl)).1.trans (m_2.2 213 _ sX_213 (dk_dq rfl)).1) k9).trans (hvl k9 h9)) I_5 H.size) (cwV 1 hts (bw_V wB_77 wB_78 wB_79 wB_24 wB_76) rfl rfl rfl (by decide +kernel) ⟨Nat.le_of_ble_eq_true rfl, Nat.le_of_ble_eq_true rfl⟩) (dg_preV sX_209 rfl K ST hP hS hA1 hA) rfl rfl hl.1 rfl (lv_room (Nat.le_of_ble_eq_true rfl)) dX6_readDig_36 ⟨Nat.le_of_ble_eq_true rfl, Nat.le_of_ble_eq_true rfl⟩) (fun x_12 S_13 hw_13 H locs hP hS => ?_)
          obtain ⟨I_13, m_13, w_13_0, w_13_1, -⟩ := hw_13
          have M_13 := dg_sm.tr M_5 m_13 (dk_dq rfl) (dk_dq rfl)
          have hz_14 : (8 : Int32).toInt = 8 := by decide +kernel
          have w_13_0 : 0 ≤ (x_12).toInt ∧ (x_12).toInt ≤ 1 := w_13_0
          obtain ⟨y_15, f_y_15, w_13_1⟩ := w_13_1
          have w_13_1 : (y_15).toInt ≤ (en).toInt ∧ g_ans x_12 (y_own kd vl ((8 : Int32)).toInt (y_6 : Int32).toNatClampNeg) (y_15 : Int32).toNatClampNeg := w_13_1
          have b_y_15 : 0 ≤ (y_15).toInt ∧ (y_15).toInt ≤ 1600 := dg_I.intb (lo := 0) (hi := 1600) I_13 sX_209 (by decide +kernel) f_y_15
          refine lv_if_ne (tgt := 44) hx hb dX6_readDig_39 (dk_dq rfl) (fun c_16 => ?_) (fun c_16 => ?_)
          · as_aux_lemma =>
              have jc_16 := dk_neqc (k := 0) (by decide +kernel) c_16
              have qw_13_1 : y_own kd vl 8 (y_6 : Int32).toNatClampNeg = some (y_15 : Int32).toNatClampNeg := by have h9 := w_13_1.2.1 (by omega); rw [show (8 : Int32).toInt = 8 from by decide +kernel] at h9; exact h9
              have nq_y_15 : (y_15 : Int32).toNatClampNeg = (y_6 : Int32).toNatClampNeg + 1 := by have h9 := (y_own_o qw_13_1).2; omega
              have qw_13_1k : y_own kd vl 8 (y_6 : Int32).toNatClampNeg = some ((y_6 : Int32).toNatClampNeg + 1) := by rw [qw_13_1, nq_y_15]
              refine lv_aload_n hx hb dX6_readDig_44 rfl (lv_at hl 1 rfl) ?_
              refine dg_calli hS hA1 hA (va_runV (As := []) (rest := []) F (c_rd_takeCell l g D o S_13 en kd vl gd hk_gd (((m_13.1 209 3 _ sX_209 (dk_dq rfl)).trans ((m_5.1 209 3 _ sX_209 (dk_dq rfl)).trans (m_2.1 209 3 _ sX_209 (dk_dq rfl)))).trans f_gd) y_15 f_y_15 (by omega) cx (((m_13.1 gd 0 _ (rX_0 gd hk_gd) (dk_dq rfl)).trans ((m_5.1 gd 0 _ (rX_0 gd hk_gd) (dk_dq rfl)).trans (m_2.1 gd 0 _ (rX_0 gd hk_gd) (dk_dq rfl)))).trans f_cx) (by omega) ry (((m_13.1 gd 1 _ (rX_0 gd hk_gd) (dk_dq rfl)).trans ((m_5.1 gd 1 _ (rX_0 gd hk_gd) (dk_dq rfl)).trans (m_2.1 gd 1 _ (rX_0 gd hk_gd) (dk_dq rfl)))).trans f_ry) (by omega) ke ((congrFun ((m_13.2 211 _ sX_211 (dk_dq rfl)).1.trans ((m_5.2 211 _ sX_211 (dk_dq rfl)).1.trans (m_2.2 211 _ sX_211 (dk_dq rfl)).1)) _).trans f_ke) (by omega) (by omega) (fun k9 h9 => (congrFun ((m_13.2 211 _ sX_211 (dk_dq rfl)).1.trans ((m_5.2 211 _ sX_211 (dk_dq rfl)).1.trans (m_2.2 211 _ sX_211 (dk_dq rfl)).1)) k9).trans (hkd k9 h9)) (fun k9 h9 => (congrFun ((m_13.2 213 _ sX_213 (dk_dq rfl)).1.trans ((m_5.2 213 _ sX_213 (dk_dq rfl)).1.trans (m_2.2 213 _ sX_213 (dk_dq rfl)).1)) k9).trans (hvl k9 h9)) I_13 H.size) (cwV 0 hts (bw_V wB_61 wB_62 wB_63 wB_24 wB_60) rfl rfl rfl (by decide +kernel) ⟨Nat.le_of_ble_eq_true rfl, Nat.le_of_ble_eq_true rfl⟩) (dg_preV sX_209 rfl K ST hP hS hA1 hA) rfl rfl hl.1 rfl (lv_room (Nat.le_of_ble_eq_true rfl)) dX6_readDig_45 ⟨Nat.le_of_ble_eq_true rfl, Nat.le_of_ble_eq_true rfl⟩) (fun x_17 S_18 hw_18 H locs hP hS => ?_)
              obtain ⟨I_18, m_18, w_18_0, w_18_1, w_18_2, -⟩ := hw_18
              have M_18 := dg_sm.tr M_13 m_18 (dk_dq rfl) (dk_dq rfl)
              have w_18_0 : ((-1) ≤ (x_17).toInt ∧ (x_17).toInt ≤ 62) ∧ ((x_17).toInt ≤ (-1) ∨ 8 ≤ (x_17).toInt) := w_18_0
              have w_18_1 : (x_17).toInt ≠ -1 → (x_17).toInt = 8 * (vl ((y_15 : Int32).toNatClampNeg + 1)).toInt + (vl (y_15 : Int32).toNatClampNeg).toInt + 8 := w_18_1
              obtain ⟨y_19, f_y_19, w_18_2⟩ := w_18_2
              have w_18_2 : (y_19).toInt ≤ (en).toInt ∧ g_an2 x_17 (y_cell kd vl ((cx).toInt, (ry).toInt) (y_15 : Int32).toNatClampNeg) (y_19 : Int32).toNatClampNeg := w_18_2
              have b_y_19 : 0 ≤ (y_19).toInt ∧ (y_19).toInt ≤ 1600 := dg_I.intb (lo := 0) (hi := 1600) I_18 sX_209 (by decide +kernel) f_y_19
              refine lv_istore_n (lv' := [(2, .int x_17), (1, .int x_4), (0, .ref (o + 209))]) hx hb dX6_readDig_48 rfl hl (dk_dq rfl) rfl (fun ls hl => ?_)
              refine lv_iload_n hx hb dX6_readDig_49 rfl (lv_at hl 0 rfl) ?_
              refine lv_iconst (v := (-1)) hx hb dX6_readDig_50 (by decide +kernel) ?_
              refine lv_icmp_ne (tgt := 56) hx hb dX6_readDig_51 (dk_dq rfl) (fun c_20 => ?_) (fun c_20 => ?_)
              · as_aux_lemma =>
                  have jc_20 := dk_neqc (k := (-1)) (by decide +kernel) c_20
                  have qw_18_2 : y_cell kd vl ((cx).toInt, (ry).toInt) ((y_6 : Int32).toNatClampNeg + 1) = some (y_19 : Int32).toNatClampNeg := by have h9 := w_18_2.2.1 (by omega); rw [nq_y_15] at h9; exact h9
                  have nr_y_19 : (y_19 : Int32).toNatClampNeg = (y_6 : Int32).toNatClampNeg + 3 := by have h9 := y_cell_k qw_18_2; omega
                  refine lv_aload_n hx hb dX6_readDig_56 rfl (lv_at hl 2 rfl) ?_
                  refine dg_get (C := RX6) (T := TX6) (N := 8) hx hb hts (fun w h => bw_mem (wU_X6 w h)) hown K hP sX_209 rfl 3 (dk_dq rfl) (hts _ (bw_mem wB_38)) (fun _ h9 => h9) (v := .ref (o + gd)) (((m_18.1 209 3 _ sX_209 (dk_dq rfl)).trans ((m_13.1 209 3 _ sX_209 (dk_dq rfl)).trans ((m_5.1 209 3 _ sX_209 (dk_dq rfl)).trans (m_2.1 209 3 _ sX_209 (dk_dq rfl))))).trans f_gd) dX6_readDig_57 ?_
                  refine dg_get (C := RX2) (T := TX2) (N := 19) hx hb hts (fun w h => bw_mem (wU_X2 w h)) hown K hP (rX_0 gd hk_gd) rfl 9 (dk_dq rfl) (hts _ (bw_mem wB_80)) (fun _ h9 => h9) (v := .ref (o + (gd + 3))) (show S_18.1 gd 9 = .ref (o + (gd + 3)) from dg_I.rel (d := 3) I_18 (rX_0 gd hk_gd) (by decide +kernel)) dX6_readDig_60 ?_
                  refine lv_aload_n hx hb dX6_readDig_63 rfl (lv_at hl 2 rfl) ?_
                  refine dg_get (C := RX6) (T := TX6) (N := 8) hx hb hts (fun w h => bw_mem (wU_X6 w h)) hown K hP sX_209 rfl 3 (dk_dq rfl) (hts _ (bw_mem wB_38)) (fun _ h9 => h9) (v := .ref (o + gd)) (((m_18.1 209 3 _ sX_209 (dk_dq rfl)).trans ((m_13.1 209 3 _ sX_209 (dk_dq rfl)).trans ((m_5.1 209 3 _ sX_209 (dk_dq rfl)).trans (m_2.1 209 3 _ sX_209 (dk_dq rfl))))).trans f_gd) dX6_readDig_64 ?_
                  refine dg_get (C := RX2) (T := TX2) (N := 19) hx hb hts (fun w h => bw_mem (wU_X2 w h)) hown K hP (rX_0 gd hk_gd) rfl 8 (dk_dq rfl) (hts _ (bw_mem wB_71)) (fun _ h9 => h9) (v := .int pl) (((m_18.1 gd 8 _ (rX_0 gd hk_gd) (dk_dq rfl)).trans ((m_13.1 gd 8 _ (rX_0 gd hk_gd) (dk_dq rfl)).trans ((m_5.1 gd 8 _ (rX_0 gd hk_gd) (dk_dq rfl)).trans (m_2.1 gd 8 _ (rX_0 gd hk_gd) (dk_dq rfl))))).trans f_pl) dX6_readDig_67 ?_
                  refine lv_iload_n hx hb dX6_readDig_70 rfl (lv_at hl 1 rfl) ?_
                  have hin_21 : vp_in pl 16 := (dk_inv2 (by omega))
                  refine dg_iast hx hb K hP hS hA1 (rX_3 gd hk_gd) hin_21 dX6_readDig_71 (fun S_22 e_22 H locs hP hS => ?_)
                  have I_22 := dg_I.ufu (lo := 0) (hi := 5) I_18 e_22 (rX_3 gd hk_gd) (by decide +kernel) (show 0 ≤ (x_4).toInt ∧ (x_4).toInt ≤ 5 from (by omega))
                  have M_22 := dg_sm.uf M_18 e_22 (rX_3 gd hk_gd) (dk_dq rfl)
                  have GO_22 := GOX.uf (GOX.keep (GOX.keep (GOX.keep (GOX.keep GO m_2 (dk_dq rfl) (dk_dq rfl)) m_5 (dk_dq rfl) (dk_dq rfl)) m_13 (dk_dq rfl) (dk_dq rfl)) m_18 (dk_dq rfl) (dk_dq rfl)) hk_gd hd0 (i := 3) (dk_dq rfl) e_22
                  refine lv_aload_n hx hb dX6_readDig_72 rfl (lv_at hl 2 rfl) ?_
                  refine dg_get (C := RX6) (T := TX6) (N := 8) hx hb hts (fun w h => bw_mem (wU_X6 w h)) hown K hP sX_209 rfl 3 (dk_dq rfl) (hts _ (bw_mem wB_38)) (fun _ h9 => h9) (v := .ref (o + gd)) (((dg_uf_F e_22 209 3).trans ((m_18.1 209 3 _ sX_209 (dk_dq rfl)).trans ((m_13.1 209 3 _ sX_209 (dk_dq rfl)).trans ((m_5.1 209 3 _ sX_209 (dk_dq rfl)).trans (m_2.1 209 3 _ sX_209 (dk_dq rfl)))))).trans f_gd) dX6_readDig_73 ?_
                  refine dg_get (C := RX2) (T := TX2) (N := 19) hx hb hts (fun w h => bw_mem (wU_X2 w h)) hown K hP (rX_0 gd hk_gd) rfl 10 (dk_dq rfl) (hts _ (bw_mem wB_81)) (fun _ h9 => h9) (v := .ref (o + (gd + 4))) (show S_22.1 gd 10 = .ref (o + (gd + 4)) from dg_I.rel (d := 4) I_22 (rX_0 gd hk_gd) (by decide +kernel)) dX6_readDig_76 ?_
                  refine lv_aload_n hx hb dX6_readDig_79 rfl (lv_at hl 2 rfl) ?_
                  refine dg_get (C := RX6) (T := TX6) (N := 8) hx hb hts (fun w h => bw_mem (wU_X6 w h)) hown K hP sX_209 rfl 3 (dk_dq rfl) (hts _ (bw_mem wB_38)) (fun _ h9 => h9) (v := .ref (o + gd)) (((dg_uf_F e_22 209 3).trans ((m_18.1 209 3 _ sX_209 (dk_dq rfl)).trans ((m_13.1 209 3 _ sX_209 (dk_dq rfl)).trans ((m_5.1 209 3 _ sX_209 (dk_dq rfl)).trans (m_2.1 209 3 _ sX_209 (dk_dq rfl)))))).trans f_gd) dX6_readDig_80 ?_
                  refine dg_get (C := RX2) (T := TX2) (N := 19) hx hb hts (fun w h => bw_mem (wU_X2 w h)) hown K hP (rX_0 gd hk_gd) rfl 8 (dk_dq rfl) (hts _ (bw_mem wB_71)) (fun _ h9 => h9) (v := .int pl) (((dg_uf_F e_22 gd 8).trans ((m_18.1 gd 8 _ (rX_0 gd hk_gd) (dk_dq rfl)).trans ((m_13.1 gd 8 _ (rX_0 gd hk_gd) (dk_dq rfl)).trans ((m_5.1 gd 8 _ (rX_0 gd hk_gd) (dk_dq rfl)).trans (m_2.1 gd 8 _ (rX_0 gd hk_gd) (dk_dq rfl)))))).trans f_pl) dX6_readDig_83 ?_
                  refine lv_iload_n hx hb dX6_readDig_86 rfl (lv_at hl 0 rfl) ?_
                  have hin_23 : vp_in pl 16 := (dk_inv2 (by omega))
                  refine dg_iast hx hb K hP hS hA1 (rX_4 gd hk_gd) hin_23 dX6_readDig_87 (fun S_24 e_24 H locs hP hS => ?_)
                  have I_24 := dg_I.ufu (lo := 0) (hi := 63) I_22 e_24 (rX_4 gd hk_gd) (by decide +kernel) (show 0 ≤ (x_17).toInt ∧ (x_17).toInt ≤ 63 from (by omega))
                  have M_24 := dg_sm.uf M_22 e_24 (rX_4 gd hk_gd) (dk_dq rfl)
                  have GO_24 := GOX.uf GO_22 hk_gd hd0 (i := 4) (dk_dq rfl) e_24
                  refine lv_aload_n hx hb dX6_readDig_88 rfl (lv_at hl 2 rfl) ?_
                  refine dg_get (C := RX6) (T := TX6) (N := 8) hx hb hts (fun w h => bw_mem (wU_X6 w h)) hown K hP sX_209 rfl 3 (dk_dq rfl) (hts _ (bw_mem wB_38)) (fun _ h9 => h9) (v := .ref (o + gd)) (((dg_uf_F e_24 209 3).trans ((dg_uf_F e_22 209 3).trans ((m_18.1 209 3 _ sX_209 (dk_dq rfl)).trans ((m_13.1 209 3 _ sX_209 (dk_dq rfl)).trans ((m_5.1 209 3 _ sX_209 (dk_dq rfl)).trans (m_2.1 209 3 _ sX_209 (dk_dq rfl))))))).trans f_gd) dX6_readDig_89 ?_
                  refine lv_dup hx hb dX6_readDig_92 rfl ?_
                  refine dg_get (C := RX2) (T := TX2) (N := 19) hx hb hts (fun w h => bw_mem (wU_X2 w h)) hown K hP (rX_0 gd hk_gd) rfl 8 (dk_dq rfl) (hts _ (bw_mem wB_71)) (fun _ h9 => h9) (v := .int pl) (((dg_uf_F e_24 gd 8).trans ((dg_uf_F e_22 gd 8).trans ((m_18.1 gd 8 _ (rX_0 gd hk_gd) (dk_dq rfl)).trans ((m_13.1 gd 8 _ (rX_0 gd hk_gd) (dk_dq rfl)).trans ((m_5.1 gd 8 _ (rX_0 gd hk_gd) (dk_dq rfl)).trans (m_2.1 gd 8 _ (rX_0 gd hk_gd) (dk_dq rfl))))))).trans f_pl) dX6_readDig_93 ?_
                  refine lv_iconst (v := 1) hx hb dX6_readDig_96 (by decide +kernel) ?_
                  refine lv_iadd hx hb dX6_readDig_97 ?_
                  refine lv_topi (fun x_25 ex_25 => ?_)
                  have jx_25 : (x_25).toInt = (pl).toInt + 1 := by rw [ex_25]; exact dk_addT2 rfl (by decide +kernel) (by omega)
                  refine dg_put (ci := 2) (v := .int x_25) (ty := tyX2 8) (C := RX2) (T := TX2) (N := 19) hx hb hts (fun w h => bw_mem (wU_X2 w h)) tyX2 tyX2_ok nmX2 hown K hP hS hA1 (rX_0 gd hk_gd) rfl 8 (dk_dq rfl) (hts _ (bw_mem wB_71)) (fun _ h9 => h9) rfl (by decide +kernel) rfl rfl dX6_readDig_98 (fun S_26 e_26 H locs hP hS => ?_)
                  have I_26 := dg_I.uFi (lo := 0) (hi := 16) I_24 e_26 (rX_0 gd hk_gd) (by decide +kernel) (show 0 ≤ (x_25).toInt ∧ (x_25).toInt ≤ 16 from (by omega))
                  have M_26 := dg_sm.uF M_24 e_26 (rX_0 gd hk_gd) (dk_dq rfl)
                  have GO_26 := GOX.uF GO_24 hd0 e_26
                  refine lv_iconst (v := 1) hx hb dX6_readDig_101 (by decide +kernel) ?_
                  have hz_27 : (1 : Int32).toInt = 1 := by decide +kernel
                  have hz_28 : (1 : Int32).toInt = 1 := by decide +kernel
                  have hz_29 : (1 : Int32).toInt = 1 := by decide +kernel
                  have hz_30 : (1 : Int32).toInt = 1 := by decide +kernel
                  have ql_pl : ¬ (pl).toInt = 16 := by omega
                  refine W.widen (k := 0) (n := 0) (Nat.le_of_ble_eq_true rfl) (Nat.le_of_ble_eq_true rfl) ?_
                  exact dg_iret hx hb hr hlocks (by decide +kernel) hP hS ⟨I_26, M_26, (by decide +kernel), (m_hid.mk (fun _ => ⟨x_4, x_17, by have t9 := w_5_1 (by omega); rw [nq_y_3] at t9; exact t9, by have c9 := w_18_1 (by omega); rw [nq_y_15, nr_y_6] at c9; (try simp only [Nat.add_assoc, Nat.reduceAdd] at c9); omega, by rw [((dg_uF_f e_26 (gd + 3)).trans (dg_uf_ne e_24 (by omega))), dg_uf_at e_22, ((m_18.2 (gd + 3) _ (rX_3 gd hk_gd) (dk_dq rfl)).1.trans ((m_13.2 (gd + 3) _ (rX_3 gd hk_gd) (dk_dq rfl)).1.trans ((m_5.2 (gd + 3) _ (rX_3 gd hk_gd) (dk_dq rfl)).1.trans (m_2.2 (gd + 3) _ (rX_3 gd hk_gd) (dk_dq rfl)).1)))], by rw [(dg_uF_f e_26 (gd + 4)), dg_uf_at e_24, ((dg_uf_ne e_22 (by omega)).trans ((m_18.2 (gd + 4) _ (rX_4 gd hk_gd) (dk_dq rfl)).1.trans ((m_13.2 (gd + 4) _ (rX_4 gd hk_gd) (dk_dq rfl)).1.trans ((m_5.2 (gd + 4) _ (rX_4 gd hk_gd) (dk_dq rfl)).1.trans (m_2.2 (gd + 4) _ (rX_4 gd hk_gd) (dk_dq rfl)).1))))]⟩)), ⟨x_25, (dg_uF_at e_26), (by omega)⟩, ⟨y_19, (((dg_uF_ne e_26 (fun z => absurd z.2 (dk_dq rfl))).trans ((dg_uf_F e_24 209 4).trans (dg_uf_F e_22 209 4))).trans f_y_19), ⟨by omega, g_ans.y (by omega) (by simp [nq_y_3, qw_5_2, nq_y_15, qw_13_1k, qw_18_2, ql_pl])⟩⟩, GO_26, trivial⟩ dX6_readDig_102
              · have jc_20 := dk_eqc (k := (-1)) (by decide +kernel) c_20
                have qw_18_2 : y_cell kd vl ((cx).toInt, (ry).toInt) ((y_6 : Int32).toNatClampNeg + 1) = none := by have h9 := w_18_2.2.2 (by omega); rw [nq_y_15] at h9; exact h9
                refine lv_iconst (v := 0) hx hb dX6_readDig_54 (by decide +kernel) ?_
                have hz_31 : (0 : Int32).toInt = 0 := by decide +kernel
                have hz_32 : (0 : Int32).toInt = 0 := by decide +kernel
                have hz_33 : (0 : Int32).toInt = 0 := by decide +kernel
                have hz_34 : (0 : Int32).toInt = 0 := by decide +kernel
                have ql_pl : ¬ (pl).toInt = 16 := by omega
                refine W.widen (k := 0) (n := 0) (Nat.le_of_ble_eq_true rfl) (Nat.le_of_ble_eq_true rfl) ?_
                exact dg_iret hx hb hr hlocks (by decide +kernel) hP hS ⟨I_18, M_18, (by decide +kernel), (m_hid.mk (fun q9 => absurd q9 (by omega))), ⟨pl, (((m_18.1 gd 8 _ (rX_0 gd hk_gd) (dk_dq rfl)).trans ((m_13.1 gd 8 _ (rX_0 gd hk_gd) (dk_dq rfl)).trans ((m_5.1 gd 8 _ (rX_0 gd hk_gd) (dk_dq rfl)).trans (m_2.1 gd 8 _ (rX_0 gd hk_gd) (dk_dq rfl))))).trans f_pl), (by omega)⟩, ⟨y_19, f_y_19, ⟨by omega, g_ans.n (by omega) (by simp [nq_y_3, qw_5_2, nq_y_15, qw_13_1k, qw_18_2, ql_pl])⟩⟩, (GOX.keep (GOX.keep (GOX.keep (GOX.keep GO m_2 (dk_dq rfl) (dk_dq rfl)) m_5 (dk_dq rfl) (dk_dq rfl)) m_13 (dk_dq rfl) (dk_dq rfl)) m_18 (dk_dq rfl) (dk_dq rfl)), trivial⟩ dX6_readDig_55
          · have jc_16 := dk_eqc (k := 0) (by decide +kernel) c_16
            have qw_13_1 : y_own kd vl 8 (y_6 : Int32).toNatClampNeg = none := by have h9 := w_13_1.2.2 (by omega); rw [show (8 : Int32).toInt = 8 from by decide +kernel] at h9; exact h9
            refine lv_iconst (v := 0) hx hb dX6_readDig_42 (by decide +kernel) ?_
            have hz_35 : (0 : Int32).toInt = 0 := by decide +kernel
            have hz_36 : (0 : Int32).toInt = 0 := by decide +kernel
            have hz_37 : (0 : Int32).toInt = 0 := by decide +kernel
            have hz_38 : (0 : Int32).toInt = 0 := by decide +kernel
            have ql_pl : ¬ (pl).toInt = 16 := by omega
            refine W.widen (k := 0) (n := 0) (Nat.le_of_ble_eq_true rfl) (Nat.le_of_ble_eq_true rfl) ?_
            exact dg_iret hx hb hr hlocks (by decide +kernel) hP hS ⟨I_13, M_13, (by decide +kernel), (m_hid.mk (fun q9 => absurd q9 (by omega))), ⟨pl, (((m_13.1 gd 8 _ (rX_0 gd hk_gd) (dk_dq rfl)).trans ((m_5.1 gd 8 _ (rX_0 gd hk_gd) (dk_dq rfl)).trans (m_2.1 gd 8 _ (rX_0 gd hk_gd) (dk_dq rfl)))).trans f_pl), (by omega)⟩, ⟨y_15, f_y_15, ⟨by omega, g_ans.n (by omega) (by simp [nq_y_3, qw_5_2, qw_13_1, ql_pl])⟩⟩, (GOX.keep (GOX.keep (GOX.keep GO m_2 (dk_dq rfl) (dk_dq rfl)) m_5 (dk_dq rfl) (dk_dq rfl)) m_13 (dk_dq rfl) (dk_dq rfl)), trivial⟩ dX6_readDig_43
  · have jc_1 := dk_eqc (k := 16) (by decide +kernel) c_1
    refine lv_aload_n hx hb dX6_readDig_12 rfl (lv_at hl 0 rfl) ?_
    refine lv_bipush (v := 6) hx hb dX6_readDig_13 (by decide +kernel) ?_
    refine dg_calli hS hA1 hA (va_runV (As := [.int 6]) (rest := []) F (c_rd_fail l g D o S 6 en n0 f_n0 (by omega) ke f_ke (by omega) (by omega) I s.heap.size) (cwV 1 hts (bw_V wB_30 wB_31 wB_32 wB_24 wB_29) rfl rfl rfl (by decide +kernel) ⟨Nat.le_of_ble_eq_true rfl, Nat.le_of_ble_eq_true rfl⟩) (dg_preV sX_209 rfl K ST hP hS hA1 hA) rfl rfl hl.1 rfl (lv_room (Nat.le_of_ble_eq_true rfl)) dX6_readDig_15 ⟨Nat.le_of_ble_eq_true rfl, Nat.le_of_ble_eq_true rfl⟩) (fun x_39 S_40 hw_40 H locs hP hS => ?_)
    obtain ⟨I_40, m_40, w_40_0, -⟩ := hw_40
    have M_40 := dg_sm.tr M_0 m_40 (dk_dq rfl) (dk_dq rfl)
    have w_40_0 : 0 ≤ (x_39).toInt ∧ (x_39).toInt ≤ 0 := w_40_0
    have ql_pl : (pl).toInt = 16 := by omega
    refine W.widen (k := 0) (n := 0) (Nat.le_of_ble_eq_true rfl) (Nat.le_of_ble_eq_true rfl) ?_
    exact dg_iret hx hb hr hlocks (dk_znar2 (by omega)) hP hS ⟨I_40, M_40, (by omega), (m_hid.mk (fun q9 => absurd q9 (by omega))), ⟨pl, ((m_40.1 gd 8 _ (rX_0 gd hk_gd) (dk_dq rfl)).trans f_pl), (by omega)⟩, ⟨n0, ((m_40.1 209 4 _ sX_209 (dk_dq rfl)).trans f_n0), ⟨by omega, g_ans.n (by omega) (by simp [ql_pl])⟩⟩, (GOX.keep GO m_40 (dk_dq rfl) (dk_dq rfl)), trivial⟩ dX6_readDig_18
set_option maxHeartbeats 8000000 in
set_option maxRecDepth 100000 in
theorem c_rd_readOrder (l : Launch) (g : Nat → ClassId) (D : va_G) (o : Nat) (S : dg_S) (en : Int32) (kd : Nat → Int32) (vl : Nat → Int32) (fm : Nat → Int32) (fo : Nat → Int32) (S0 : dg_S) (d0 : Nat) (gd : Nat) (hk_gd : rX gd) (f_gd : S.1 209 3 = .ref (o + gd)) (n0 : Int32) (f_n0 : S.1 209 4 = .int n0) (b_n0 : 0 ≤ (n0).toInt ∧ (n0).toInt ≤ 1600) (mi : Int32) (f_mi : S.1 gd 6 = .int mi) (b_mi : 0 ≤ (mi).toInt ∧ (mi).toInt ≤ 6) (od : Int32) (f_od : S.1 gd 11 = .int od) (b_od : 0 ≤ (od).toInt ∧ (od).toInt ≤ 5) (ke : Int32) (f_ke : S.2.1 211 (en : Int32).toNatClampNeg = ke) (b_ke : 0 ≤ (ke).toInt ∧ (ke).toInt ≤ 0) (hne : (n0).toInt ≤ (en).toInt ∧ (en).toInt ≤ 1600 ∧ 0 ≤ (en).toInt) (hkd : ∀ k9 : Nat, k9 ≤ (en : Int32).toNatClampNeg → S.2.1 211 k9 = kd k9) (hvl : ∀ k9 : Nat, k9 ≤ (en : Int32).toNatClampNeg → S.2.1 213 k9 = vl k9) (hkn : (kd (n0 : Int32).toNatClampNeg).toInt ≠ 0) (hfm : S.2.1 (gd + 2) = fm) (hfo : S.2.1 (gd + 5) = fo) (hd0 : d0 ≠ gd) (GO : GOX S0 d0 S) (I : CX o S) (sz : Nat) : Met l yX6_readOrder (bw yX6_readOrder cX6_readOrder 2 (some .boolean)) ({ frames := 4, cells := 0, slots := 0, locals := 96 } : Room) (dk_Pc g D (dg_w g shX o rfX S) sz [.ref (o + 209)]) (va_Qi (fun (r : Int32) S' => CX o S' ∧ dg_sm shX [(19, 11), (31, 0), (31, 1), (31, 4), (31, 5)] [24, 25, 26, 27] S S' ∧ (0 ≤ (r).toInt ∧ (r).toInt ≤ 1) ∧ (m_hid ((r).toInt = 1 → ∃ u9 v9 w9 : Int32, u9.toInt = (vl ((n0 : Int32).toNatClampNeg + 3)).toInt ∧ v9.toInt = (vl ((n0 : Int32).toNatClampNeg + 5)).toInt ∧ w9.toInt = (vl ((n0 : Int32).toNatClampNeg + 7)).toInt ∧ S'.2.1 (gd + 6) = upd (S.2.1 (gd + 6)) (od : Int32).toNatClampNeg u9 ∧ S'.2.1 (gd + 7) = upd (S.2.1 (gd + 7)) (od : Int32).toNatClampNeg v9 ∧ S'.2.1 (gd + 8) = upd (S.2.1 (gd + 8)) (od : Int32).toNatClampNeg w9)) ∧ (∃ y9 : Int32, S'.1 gd 11 = .int y9 ∧ ((r).toInt = 1 → (y9).toInt = (od).toInt + 1)) ∧ ((r).toInt = 1 → ∃ v9 : Int32, v9.toInt = (vl ((n0 : Int32).toNatClampNeg + 1)).toInt ∧ S'.2.1 (gd + 5) = upd fo (od : Int32).toNatClampNeg v9) ∧ (∃ y9 : Int32, S'.1 209 4 = .int y9 ∧ ((y9).toInt ≤ (en).toInt ∧ g_ans r (if (od).toInt = 5 then none else ((y_new kd vl (y_nm fm (mi : Int32).toNatClampNeg) (y_nm fo (od : Int32).toNatClampNeg) ((n0 : Int32).toNatClampNeg + 1)).bind fun k1 => (y_own kd vl 5 k1).bind fun k2 => (y_num kd vl 0 9 k2).bind fun k3 => (y_own kd vl 10 k3).bind fun k4 => (y_num kd vl 1 9 k4).bind fun k5 => (y_own kd vl 11 k5).bind (y_num kd vl 0 999))) (y9 : Int32).toNatClampNeg)) ∧ GOX S0 d0 S' ∧ True) (dg_B g D shX o rfX) (dg_A o shX.length sz)) 0 0 (dg_A o shX.length sz) := by
  refine dg_met (cc := cX6_readOrder) (maxL := 2) (ret := (some .boolean)) (dk_dq rfl) rfl (Nat.le_of_ble_eq_true rfl) ?_
  intro p e s m args below meth c A hAe harg hx hb hr hml hts hown hlocks hin hP K hS hA1 hA ST hsz ls hl
  rw [← hAe]
  have F : CallFix p m c cX6_readOrder 2 s args (bw yX6_readOrder cX6_readOrder 2 (some .boolean)) RX6 := ⟨hx, hb, hml, hown, hts⟩
  have hl : lv_has ls 2 [(0, .ref (o + 209))] := hl
  have M_0 : dg_sm shX [(19, 11), (31, 0), (31, 1), (31, 4), (31, 5)] [24, 25, 26, 27] S S := dg_sm.rf
  refine lv_aload_n hx hb dX6_readOrder_0 rfl (lv_at hl 0 rfl) ?_
  refine dg_get (C := RX6) (T := TX6) (N := 8) hx hb hts (fun w h => bw_mem (wU_X6 w h)) hown K hP sX_209 rfl 3 (dk_dq rfl) (hts _ (bw_mem wB_38)) (fun _ h9 => h9) (v := .ref (o + gd)) f_gd dX6_readOrder_1 ?_
  refine dg_get (C := RX2) (T := TX2) (N := 19) hx hb hts (fun w h => bw_mem (wU_X2 w h)) hown K hP (rX_0 gd hk_gd) rfl 11 (dk_dq rfl) (hts _ (bw_mem wB_82)) (fun _ h9 => h9) (v := .int od) f_od dX6_readOrder_4 ?_
  refine lv_istore_n (lv' := [(1, .int od), (0, .ref (o + 209))]) hx hb dX6_readOrder_7 rfl hl (dk_dq rfl) rfl (fun ls hl => ?_)
  refine lv_iload_n hx hb dX6_readOrder_8 rfl (lv_at hl 0 rfl) ?_
  refine lv_iconst (v := 5) hx hb dX6_readOrder_9 (by decide +kernel) ?_
  refine lv_icmp_ne (tgt := 20) hx hb dX6_readOrder_10 (dk_dq rfl) (fun c_1 => ?_) (fun c_1 => ?_)
  · as_aux_lemma =>
      have jc_1 := dk_neqc (k := 5) (by decide +kernel) c_1
      refine lv_aload_n hx hb dX6_readOrder_20 rfl (lv_at hl 1 rfl) ?_
      refine dg_callv hS hA1 hA (va_runV (As := []) (rest := []) F (c_rd_pass l g D o S en kd vl n0 f_n0 (by omega) ke f_ke (by omega) (by omega) hkd hvl I s.heap.size) (cwV 0 hts (bw_V wB_26 wB_27 wB_28 wB_24 wB_25) rfl rfl rfl (by decide +kernel) ⟨Nat.le_of_ble_eq_true rfl, Nat.le_of_ble_eq_true rfl⟩) (dg_preV sX_209 rfl K ST hP hS hA1 hA) rfl rfl hl.1 rfl (lv_room (Nat.le_of_ble_eq_true rfl)) dX6_readOrder_21 ⟨Nat.le_of_ble_eq_true rfl, Nat.le_of_ble_eq_true rfl⟩) (fun S_2 hw_2 H locs hP hS => ?_)
      obtain ⟨I_2, m_2, w_2_0, -⟩ := hw_2
      have M_2 := dg_sm.tr M_0 m_2 (dk_dq rfl) (dk_dq rfl)
      obtain ⟨y_3, f_y_3, w_2_0⟩ := w_2_0
      have w_2_0 : (y_3).toInt ≤ (en).toInt ∧ ((kd (n0 : Int32).toNatClampNeg).toInt ≠ 0 → (y_3 : Int32).toNatClampNeg = (n0 : Int32).toNatClampNeg + 1) := w_2_0
      have b_y_3 : 0 ≤ (y_3).toInt ∧ (y_3).toInt ≤ 1600 := dg_I.intb (lo := 0) (hi := 1600) I_2 sX_209 (by decide +kernel) f_y_3
      have nq_y_3 : (y_3 : Int32).toNatClampNeg = (n0 : Int32).toNatClampNeg + 1 := by have h9 := w_2_0.2 hkn; omega
      refine lv_aload_n hx hb dX6_readOrder_24 rfl (lv_at hl 1 rfl) ?_
      refine dg_calli hS hA1 hA (va_runV (As := []) (rest := []) F (c_rd_takeNewName l g D o S_2 en kd vl fm fo gd hk_gd ((m_2.1 209 3 _ sX_209 (dk_dq rfl)).trans f_gd) y_3 f_y_3 (by omega) mi ((m_2.1 gd 6 _ (rX_0 gd hk_gd) (dk_dq rfl)).trans f_mi) (by omega) od ((m_2.1 gd 11 _ (rX_0 gd hk_gd) (dk_dq rfl)).trans f_od) (by omega) ke ((congrFun (m_2.2 211 _ sX_211 (dk_dq rfl)).1 _).trans f_ke) (by omega) (by omega) (fun k9 h9 => (congrFun (m_2.2 211 _ sX_211 (dk_dq rfl)).1 k9).trans (hkd k9 h9)) (fun k9 h9 => (congrFun (m_2.2 213 _ sX_213 (dk_dq rfl)).1 k9).trans (hvl k9 h9)) ((m_2.2 (gd + 2) _ (rX_2 gd hk_gd) (dk_dq rfl)).1.trans hfm) ((m_2.2 (gd + 5) _ (rX_5 gd hk_gd) (dk_dq rfl)).1.trans hfo) I_2 H.size) (cwV 0 hts (bw_V wB_67 wB_68 wB_69 wB_24 wB_66) rfl rfl rfl (by decide +kernel) ⟨Nat.le_of_ble_eq_true rfl, Nat.le_of_ble_eq_true rfl⟩) (dg_preV sX_209 rfl K ST hP hS hA1 hA) rfl rfl hl.1 rfl (lv_room (Nat.le_of_ble_eq_true rfl)) dX6_readOrder_25 ⟨Nat.le_of_ble_eq_true rfl, Nat.le_of_ble_eq_true rfl⟩) (fun x_4 S_5 hw_5 H locs hP hS => ?_)
      obtain ⟨I_5, m_5, w_5_0, w_5_1, w_5_2, -⟩ := hw_5
      have M_5 := dg_sm.tr M_2 m_5 (dk_dq rfl) (dk_dq rfl)
      have w_5_0 : 0 ≤ (x_4).toInt ∧ (x_4).toInt ≤ 1 := w_5_0
      obtain ⟨y_6, f_y_6, w_5_1⟩ := w_5_1
      have w_5_1 : (x_4).toInt = 1 → (y_6).toInt = (vl (y_3 : Int32).toNatClampNeg).toInt := w_5_1
      obtain ⟨y_7, f_y_7, w_5_2⟩ := w_5_2
      have w_5_2 : (y_7).toInt ≤ (en).toInt ∧ g_ans x_4 (y_new kd vl (y_nm fm (mi : Int32).toNatClampNeg) (y_nm fo (od : Int32).toNatClampNeg) (y_3 : Int32).toNatClampNeg) (y_7 : Int32).toNatClampNeg := w_5_2
      have b_y_7 : 0 ≤ (y_7).toInt ∧ (y_7).toInt ≤ 1600 := dg_I.intb (lo := 0) (hi := 1600) I_5 sX_209 (by decide +kernel) f_y_7
      refine lv_if_ne (tgt := 33) hx hb dX6_readOrder_28 (dk_dq rfl) (fun c_8 => ?_) (fun c_8 => ?_)
      · as_aux_lemma =>
          have jc_8 := dk_neqc (k := 0) (by decide +kernel) c_8
          have qw_5_2 : y_new kd vl (y_nm fm (mi : Int32).toNatClampNeg) (y_nm fo (od : Int32).toNatClampNeg) ((n0 : Int32).toNatClampNeg + 1) = some (y_7 : Int32).toNatClampNeg := by have h9 := w_5_2.2.1 (by omega); rw [nq_y_3] at h9; exact h9
          have nq_y_7 : (y_7 : Int32).toNatClampNeg = (n0 : Int32).toNatClampNeg + 2 := by have h9 := (y_new_o qw_5_2).2; omega
          have qw_5_2k : y_new kd vl (y_nm fm (mi : Int32).toNatClampNeg) (y_nm fo (od : Int32).toNatClampNeg) ((n0 : Int32).toNatClampNeg + 1) = some ((n0 : Int32).toNatClampNeg + 2) := by rw [qw_5_2, nq_y_7]
          refine lv_aload_n hx hb dX6_readOrder_33 rfl (lv_at hl 1 rfl) ?_
          refine dg_get (C := RX6) (T := TX6) (N := 8) hx hb hts (fun w h => bw_mem (wU_X6 w h)) hown K hP sX_209 rfl 3 (dk_dq rfl) (hts _ (bw_mem wB_38)) (fun _ h9 => h9) (v := .ref (o + gd)) (((m_5.1 209 3 _ sX_209 (dk_dq rfl)).trans (m_2.1 209 3 _ sX_209 (dk_dq rfl))).trans f_gd) dX6_readOrder_34 ?_
          refine dg_get (C := RX2) (T := TX2) (N := 19) hx hb hts (fun w h => bw_mem (wU_X2 w h)) hown K hP (rX_0 gd hk_gd) rfl 12 (dk_dq rfl) (hts _ (bw_mem wB_83)) (fun _ h9 => h9) (v := .ref (o + (gd + 5))) (show S_5.1 gd 12 = .ref (o + (gd + 5)) from dg_I.rel (d := 5) I_5 (rX_0 gd hk_gd) (by decide +kernel)) dX6_readOrder_37 ?_
          refine lv_iload_n hx hb dX6_readOrder_40 rfl (lv_at hl 0 rfl) ?_
          refine lv_aload_n hx hb dX6_readOrder_41 rfl (lv_at hl 1 rfl) ?_
          refine dg_get (C := RX6) (T := TX6) (N := 8) hx hb hts (fun w h => bw_mem (wU_X6 w h)) hown K hP sX_209 rfl 5 (dk_dq rfl) (hts _ (bw_mem wB_41)) (fun _ h9 => h9) (v := .int y_6) f_y_6 dX6_readOrder_42 ?_
          have hin_9 : vp_in od 5 := (dk_inv2 (by omega))
          refine dg_iast hx hb K hP hS hA1 (rX_5 gd hk_gd) hin_9 dX6_readOrder_45 (fun S_10 e_10 H locs hP hS => ?_)
          have I_10 := dg_I.uf0 I_5 e_10 (rX_5 gd hk_gd) (by decide +kernel)
          have M_10 := dg_sm.uf M_5 e_10 (rX_5 gd hk_gd) (dk_dq rfl)
          have GO_10 := GOX.uf (GOX.keep (GOX.keep GO m_2 (dk_dq rfl) (dk_dq rfl)) m_5 (dk_dq rfl) (dk_dq rfl)) hk_gd hd0 (i := 5) (dk_dq rfl) e_10
          refine lv_aload_n hx hb dX6_readOrder_46 rfl (lv_at hl 1 rfl) ?_
          refine lv_iconst (v := 5) hx hb dX6_readOrder_47 (by decide +kernel) ?_
          refine dg_calli hS hA1 hA (va_runV (As := [.int 5]) (rest := []) F (c_rd_takeOwn l g D o S_10 5 en kd vl y_7 ((dg_uf_F e_10 209 4).trans f_y_7) (by omega) ke ((congrFun ((dg_uf_ne e_10 (fun z => by have h9 := sX_211; rw [z, (rX_5 gd hk_gd)] at h9; cases h9)).trans ((m_5.2 211 _ sX_211 (dk_dq rfl)).1.trans (m_2.2 211 _ sX_211 (dk_dq rfl)).1)) _).trans f_ke) (by omega) (by omega) (fun k9 h9 => (congrFun ((dg_uf_ne e_10 (fun z => by have h9 := sX_211; rw [z, (rX_5 gd hk_gd)] at h9; cases h9)).trans ((m_5.2 211 _ sX_211 (dk_dq rfl)).1.trans (m_2.2 211 _ sX_211 (dk_dq rfl)).1)) k9).trans (hkd k9 h9)) (fun k9 h9 => (congrFun ((dg_uf_ne e_10 (fun z => by have h9 := sX_213; rw [z, (rX_5 gd hk_gd)] at h9; cases h9)).trans ((m_5.2 213 _ sX_213 (dk_dq rfl)).1.trans (m_2.2 213 _ sX_213 (dk_dq rfl)).1)) k9).trans (hvl k9 h9)) I_10 H.size) (cwV 1 hts (bw_V wB_77 wB_78 wB_79 wB_24 wB_76) rfl rfl rfl (by decide +kernel) ⟨Nat.le_of_ble_eq_true rfl, Nat.le_of_ble_eq_true rfl⟩) (dg_preV sX_209 rfl K ST hP hS hA1 hA) rfl rfl hl.1 rfl (lv_room (Nat.le_of_ble_eq_true rfl)) dX6_readOrder_48 ⟨Nat.le_of_ble_eq_true rfl, Nat.le_of_ble_eq_true rfl⟩) (fun x_11 S_12 hw_12 H locs hP hS => ?_)
          obtain ⟨I_12, m_12, w_12_0, w_12_1, -⟩ := hw_12
          have M_12 := dg_sm.tr M_10 m_12 (dk_dq rfl) (dk_dq rfl)
          have hz_13 : (5 : Int32).toInt = 5 := by decide +kernel
          have w_12_0 : 0 ≤ (x_11).toInt ∧ (x_11).toInt ≤ 1 := w_12_0
          obtain ⟨y_14, f_y_14, w_12_1⟩ := w_12_1
          have w_12_1 : (y_14).toInt ≤ (en).toInt ∧ g_ans x_11 (y_own kd vl ((5 : Int32)).toInt (y_7 : Int32).toNatClampNeg) (y_14 : Int32).toNatClampNeg := w_12_1
          have b_y_14 : 0 ≤ (y_14).toInt ∧ (y_14).toInt ≤ 1600 := dg_I.intb (lo := 0) (hi := 1600) I_12 sX_209 (by decide +kernel) f_y_14
          refine lv_if_eq (tgt := 64) hx hb dX6_readOrder_51 (dk_dq rfl) (fun c_15 => ?_) (fun c_15 => ?_)
          · have jc_15 := dk_eqc (k := 0) (by decide +kernel) c_15
            have qw_12_1 : y_own kd vl 5 ((n0 : Int32).toNatClampNeg + 2) = none := by have h9 := w_12_1.2.2 (by omega); rw [show (5 : Int32).toInt = 5 from by decide +kernel, nq_y_7] at h9; exact h9
            refine lv_iconst (v := 0) hx hb dX6_readOrder_64 (by decide +kernel) ?_
            have hz_16 : (0 : Int32).toInt = 0 := by decide +kernel
            have hz_17 : (0 : Int32).toInt = 0 := by decide +kernel
            have hz_18 : (0 : Int32).toInt = 0 := by decide +kernel
            have hz_19 : (0 : Int32).toInt = 0 := by decide +kernel
            have hz_20 : (0 : Int32).toInt = 0 := by decide +kernel
            have ql_od : ¬ (od).toInt = 5 := by omega
            refine W.widen (k := 0) (n := 0) (Nat.le_of_ble_eq_true rfl) (Nat.le_of_ble_eq_true rfl) ?_
            exact dg_iret hx hb hr hlocks (by decide +kernel) hP hS ⟨I_12, M_12, (by decide +kernel), (m_hid.mk (fun q9 => absurd q9 (by omega))), ⟨od, (((m_12.1 gd 11 _ (rX_0 gd hk_gd) (dk_dq rfl)).trans ((dg_uf_F e_10 gd 11).trans ((m_5.1 gd 11 _ (rX_0 gd hk_gd) (dk_dq rfl)).trans (m_2.1 gd 11 _ (rX_0 gd hk_gd) (dk_dq rfl))))).trans f_od), (by omega)⟩, (fun q9 => absurd q9 (by omega)), ⟨y_14, f_y_14, ⟨by omega, g_ans.n (by omega) (by simp [nq_y_3, nq_y_7, qw_5_2k, qw_12_1, ql_od])⟩⟩, (GOX.keep GO_10 m_12 (dk_dq rfl) (dk_dq rfl)), trivial⟩ dX6_readOrder_65
          · as_aux_lemma =>
              have jc_15 := dk_neqc (k := 0) (by decide +kernel) c_15
              have qw_12_1 : y_own kd vl 5 ((n0 : Int32).toNatClampNeg + 2) = some (y_14 : Int32).toNatClampNeg := by have h9 := w_12_1.2.1 (by omega); rw [show (5 : Int32).toInt = 5 from by decide +kernel, nq_y_7] at h9; exact h9
              have nq_y_14 : (y_14 : Int32).toNatClampNeg = (n0 : Int32).toNatClampNeg + 3 := by have h9 := (y_own_o qw_12_1).2; omega
              have qw_12_1k : y_own kd vl 5 ((n0 : Int32).toNatClampNeg + 2) = some ((n0 : Int32).toNatClampNeg + 3) := by rw [qw_12_1, nq_y_14]
              refine lv_aload_n hx hb dX6_readOrder_54 rfl (lv_at hl 1 rfl) ?_
              refine lv_iconst (v := 0) hx hb dX6_readOrder_55 (by decide +kernel) ?_
              refine lv_bipush (v := 9) hx hb dX6_readOrder_56 (by decide +kernel) ?_
              refine dg_calli hS hA1 hA (va_runV (As := [.int 0, .int 9]) (rest := []) F (c_rd_takeNumber l g D o S_12 0 9 en kd vl y_14 f_y_14 (by omega) ke ((congrFun ((m_12.2 211 _ sX_211 (dk_dq rfl)).1.trans ((dg_uf_ne e_10 (fun z => by have h9 := sX_211; rw [z, (rX_5 gd hk_gd)] at h9; cases h9)).trans ((m_5.2 211 _ sX_211 (dk_dq rfl)).1.trans (m_2.2 211 _ sX_211 (dk_dq rfl)).1))) _).trans f_ke) (by omega) (by omega) (fun k9 h9 => (congrFun ((m_12.2 211 _ sX_211 (dk_dq rfl)).1.trans ((dg_uf_ne e_10 (fun z => by have h9 := sX_211; rw [z, (rX_5 gd hk_gd)] at h9; cases h9)).trans ((m_5.2 211 _ sX_211 (dk_dq rfl)).1.trans (m_2.2 211 _ sX_211 (dk_dq rfl)).1))) k9).trans (hkd k9 h9)) (fun k9 h9 => (congrFun ((m_12.2 213 _ sX_213 (dk_dq rfl)).1.trans ((dg_uf_ne e_10 (fun z => by have h9 := sX_213; rw [z, (rX_5 gd hk_gd)] at h9; cases h9)).trans ((m_5.2 213 _ sX_213 (dk_dq rfl)).1.trans (m_2.2 213 _ sX_213 (dk_dq rfl)).1))) k9).trans (hvl k9 h9)) I_12 H.size) (cwV 2 hts (bw_V wB_49 wB_50 wB_51 wB_24 wB_48) rfl rfl rfl (by decide +kernel) ⟨Nat.le_of_ble_eq_true rfl, Nat.le_of_ble_eq_true rfl⟩) (dg_preV sX_209 rfl K ST hP hS hA1 hA) rfl rfl hl.1 rfl (lv_room (Nat.le_of_ble_eq_true rfl)) dX6_readOrder_58 ⟨Nat.le_of_ble_eq_true rfl, Nat.le_of_ble_eq_true rfl⟩) (fun x_21 S_22 hw_22 H locs hP hS => ?_)
              obtain ⟨I_22, m_22, w_22_0, w_22_1, w_22_2, -⟩ := hw_22
              have M_22 := dg_sm.tr M_12 m_22 (dk_dq rfl) (dk_dq rfl)
              have hz_23 : (0 : Int32).toInt = 0 := by decide +kernel
              have hz_24 : (9 : Int32).toInt = 9 := by decide +kernel
              have w_22_0 : 0 ≤ (x_21).toInt ∧ (x_21).toInt ≤ 1 := w_22_0
              obtain ⟨y_25, f_y_25, w_22_1⟩ := w_22_1
              have w_22_1 : (x_21).toInt = 1 → (y_25).toInt = (vl (y_14 : Int32).toNatClampNeg).toInt ∧ ((0 : Int32)).toInt ≤ (y_25).toInt ∧ (y_25).toInt ≤ ((9 : Int32)).toInt := w_22_1
              obtain ⟨y_26, f_y_26, w_22_2⟩ := w_22_2
              have w_22_2 : (y_26).toInt ≤ (en).toInt ∧ g_ans x_21 (y_num kd vl ((0 : Int32)).toInt ((9 : Int32)).toInt (y_14 : Int32).toNatClampNeg) (y_26 : Int32).toNatClampNeg := w_22_2
              have b_y_26 : 0 ≤ (y_26).toInt ∧ (y_26).toInt ≤ 1600 := dg_I.intb (lo := 0) (hi := 1600) I_22 sX_209 (by decide +kernel) f_y_26
              refine lv_if_ne (tgt := 66) hx hb dX6_readOrder_61 (dk_dq rfl) (fun c_27 => ?_) (fun c_27 => ?_)
              · as_aux_lemma =>
                  have jc_27 := dk_neqc (k := 0) (by decide +kernel) c_27
                  have qw_22_2 : y_num kd vl 0 9 ((n0 : Int32).toNatClampNeg + 3) = some (y_26 : Int32).toNatClampNeg := by have h9 := w_22_2.2.1 (by omega); rw [show (0 : Int32).toInt = 0 from by decide +kernel, show (9 : Int32).toInt = 9 from by decide +kernel, nq_y_14] at h9; exact h9
                  have nq_y_26 : (y_26 : Int32).toNatClampNeg = (n0 : Int32).toNatClampNeg + 4 := by have h9 := (y_num_o qw_22_2).2.2.2; omega
                  have qw_22_2k : y_num kd vl 0 9 ((n0 : Int32).toNatClampNeg + 3) = some ((n0 : Int32).toNatClampNeg + 4) := by rw [qw_22_2, nq_y_26]
                  refine lv_aload_n hx hb dX6_readOrder_66 rfl (lv_at hl 1 rfl) ?_
                  refine dg_get (C := RX6) (T := TX6) (N := 8) hx hb hts (fun w h => bw_mem (wU_X6 w h)) hown K hP sX_209 rfl 3 (dk_dq rfl) (hts _ (bw_mem wB_38)) (fun _ h9 => h9) (v := .ref (o + gd)) (((m_22.1 209 3 _ sX_209 (dk_dq rfl)).trans ((m_12.1 209 3 _ sX_209 (dk_dq rfl)).trans ((dg_uf_F e_10 209 3).trans ((m_5.1 209 3 _ sX_209 (dk_dq rfl)).trans (m_2.1 209 3 _ sX_209 (dk_dq rfl)))))).trans f_gd) dX6_readOrder_67 ?_
                  refine dg_get (C := RX2) (T := TX2) (N := 19) hx hb hts (fun w h => bw_mem (wU_X2 w h)) hown K hP (rX_0 gd hk_gd) rfl 13 (dk_dq rfl) (hts _ (bw_mem wB_84)) (fun _ h9 => h9) (v := .ref (o + (gd + 6))) (show S_22.1 gd 13 = .ref (o + (gd + 6)) from dg_I.rel (d := 6) I_22 (rX_0 gd hk_gd) (by decide +kernel)) dX6_readOrder_70 ?_
                  refine lv_iload_n hx hb dX6_readOrder_73 rfl (lv_at hl 0 rfl) ?_
                  refine lv_aload_n hx hb dX6_readOrder_74 rfl (lv_at hl 1 rfl) ?_
                  refine dg_get (C := RX6) (T := TX6) (N := 8) hx hb hts (fun w h => bw_mem (wU_X6 w h)) hown K hP sX_209 rfl 5 (dk_dq rfl) (hts _ (bw_mem wB_41)) (fun _ h9 => h9) (v := .int y_25) f_y_25 dX6_readOrder_75 ?_
                  have hin_28 : vp_in od 5 := (dk_inv2 (by omega))
                  refine dg_iast hx hb K hP hS hA1 (rX_6 gd hk_gd) hin_28 dX6_readOrder_78 (fun S_29 e_29 H locs hP hS => ?_)
                  have I_29 := dg_I.ufu (lo := 0) (hi := 9) I_22 e_29 (rX_6 gd hk_gd) (by decide +kernel) (show 0 ≤ (y_25).toInt ∧ (y_25).toInt ≤ 9 from (by omega))
                  have M_29 := dg_sm.uf M_22 e_29 (rX_6 gd hk_gd) (dk_dq rfl)
                  have GO_29 := GOX.uf (GOX.keep (GOX.keep GO_10 m_12 (dk_dq rfl) (dk_dq rfl)) m_22 (dk_dq rfl) (dk_dq rfl)) hk_gd hd0 (i := 6) (dk_dq rfl) e_29
                  refine lv_aload_n hx hb dX6_readOrder_79 rfl (lv_at hl 1 rfl) ?_
                  refine lv_bipush (v := 10) hx hb dX6_readOrder_80 (by decide +kernel) ?_
                  refine dg_calli hS hA1 hA (va_runV (As := [.int 10]) (rest := []) F (c_rd_takeOwn l g D o S_29 10 en kd vl y_26 ((dg_uf_F e_29 209 4).trans f_y_26) (by omega) ke ((congrFun ((dg_uf_ne e_29 (fun z => by have h9 := sX_211; rw [z, (rX_6 gd hk_gd)] at h9; cases h9)).trans ((m_22.2 211 _ sX_211 (dk_dq rfl)).1.trans ((m_12.2 211 _ sX_211 (dk_dq rfl)).1.trans ((dg_uf_ne e_10 (fun z => by have h9 := sX_211; rw [z, (rX_5 gd hk_gd)] at h9; cases h9)).trans ((m_5.2 211 _ sX_211 (dk_dq rfl)).1.trans (m_2.2 211 _ sX_211 (dk_dq rfl)).1))))) _).trans f_ke) (by omega) (by omega) (fun k9 h9 => (congrFun ((dg_uf_ne e_29 (fun z => by have h9 := sX_211; rw [z, (rX_6 gd hk_gd)] at h9; cases h9)).trans ((m_22.2 211 _ sX_211 (dk_dq rfl)).1.trans ((m_12.2 211 _ sX_211 (dk_dq rfl)).1.trans ((dg_uf_ne e_10 (fun z => by have h9 := sX_211; rw [z, (rX_5 gd hk_gd)] at h9; cases h9)).trans ((m_5.2 211 _ sX_211 (dk_dq rfl)).1.trans (m_2.2 211 _ sX_211 (dk_dq rfl)).1))))) k9).trans (hkd k9 h9)) (fun k9 h9 => (congrFun ((dg_uf_ne e_29 (fun z => by have h9 := sX_213; rw [z, (rX_6 gd hk_gd)] at h9; cases h9)).trans ((m_22.2 213 _ sX_213 (dk_dq rfl)).1.trans ((m_12.2 213 _ sX_213 (dk_dq rfl)).1.trans ((dg_uf_ne e_10 (fun z => by have h9 := sX_213; rw [z, (rX_5 gd hk_gd)] at h9; cases h9)).trans ((m_5.2 213 _ sX_213 (dk_dq rfl)).1.trans (m_2.2 213 _ sX_213 (dk_dq rfl)).1))))) k9).trans (hvl k9 h9)) I_29 H.size) (cwV 1 hts (bw_V wB_77 wB_78 wB_79 wB_24 wB_76) rfl rfl rfl (by decide +kernel) ⟨Nat.le_of_ble_eq_true rfl, Nat.le_of_ble_eq_true rfl⟩) (dg_preV sX_209 rfl K ST hP hS hA1 hA) rfl rfl hl.1 rfl (lv_room (Nat.le_of_ble_eq_true rfl)) dX6_readOrder_82 ⟨Nat.le_of_ble_eq_true rfl, Nat.le_of_ble_eq_true rfl⟩) (fun x_30 S_31 hw_31 H locs hP hS => ?_)
                  obtain ⟨I_31, m_31, w_31_0, w_31_1, -⟩ := hw_31
                  have M_31 := dg_sm.tr M_29 m_31 (dk_dq rfl) (dk_dq rfl)
                  have hz_32 : (10 : Int32).toInt = 10 := by decide +kernel
                  have w_31_0 : 0 ≤ (x_30).toInt ∧ (x_30).toInt ≤ 1 := w_31_0
                  obtain ⟨y_33, f_y_33, w_31_1⟩ := w_31_1
                  have w_31_1 : (y_33).toInt ≤ (en).toInt ∧ g_ans x_30 (y_own kd vl ((10 : Int32)).toInt (y_26 : Int32).toNatClampNeg) (y_33 : Int32).toNatClampNeg := w_31_1
                  have b_y_33 : 0 ≤ (y_33).toInt ∧ (y_33).toInt ≤ 1600 := dg_I.intb (lo := 0) (hi := 1600) I_31 sX_209 (by decide +kernel) f_y_33
                  refine lv_if_eq (tgt := 98) hx hb dX6_readOrder_85 (dk_dq rfl) (fun c_34 => ?_) (fun c_34 => ?_)
                  · have jc_34 := dk_eqc (k := 0) (by decide +kernel) c_34
                    have qw_31_1 : y_own kd vl 10 ((n0 : Int32).toNatClampNeg + 4) = none := by have h9 := w_31_1.2.2 (by omega); rw [show (10 : Int32).toInt = 10 from by decide +kernel, nq_y_26] at h9; exact h9
                    refine lv_iconst (v := 0) hx hb dX6_readOrder_98 (by decide +kernel) ?_
                    have hz_35 : (0 : Int32).toInt = 0 := by decide +kernel
                    have hz_36 : (0 : Int32).toInt = 0 := by decide +kernel
                    have hz_37 : (0 : Int32).toInt = 0 := by decide +kernel
                    have hz_38 : (0 : Int32).toInt = 0 := by decide +kernel
                    have hz_39 : (0 : Int32).toInt = 0 := by decide +kernel
                    have ql_od : ¬ (od).toInt = 5 := by omega
                    refine W.widen (k := 0) (n := 0) (Nat.le_of_ble_eq_true rfl) (Nat.le_of_ble_eq_true rfl) ?_
                    exact dg_iret hx hb hr hlocks (by decide +kernel) hP hS ⟨I_31, M_31, (by decide +kernel), (m_hid.mk (fun q9 => absurd q9 (by omega))), ⟨od, (((m_31.1 gd 11 _ (rX_0 gd hk_gd) (dk_dq rfl)).trans ((dg_uf_F e_29 gd 11).trans ((m_22.1 gd 11 _ (rX_0 gd hk_gd) (dk_dq rfl)).trans ((m_12.1 gd 11 _ (rX_0 gd hk_gd) (dk_dq rfl)).trans ((dg_uf_F e_10 gd 11).trans ((m_5.1 gd 11 _ (rX_0 gd hk_gd) (dk_dq rfl)).trans (m_2.1 gd 11 _ (rX_0 gd hk_gd) (dk_dq rfl)))))))).trans f_od), (by omega)⟩, (fun q9 => absurd q9 (by omega)), ⟨y_33, f_y_33, ⟨by omega, g_ans.n (by omega) (by simp [nq_y_3, nq_y_7, qw_5_2k, nq_y_14, qw_12_1k, nq_y_26, qw_22_2k, qw_31_1, ql_od])⟩⟩, (GOX.keep GO_29 m_31 (dk_dq rfl) (dk_dq rfl)), trivial⟩ dX6_readOrder_99
                  · as_aux_lemma =>
                      have jc_34 := dk_neqc (k := 0) (by decide +kernel) c_34
                      have qw_31_1 : y_own kd vl 10 ((n0 : Int32).toNatClampNeg + 4) = some (y_33 : Int32).toNatClampNeg := by have h9 := w_31_1.2.1 (by omega); rw [show (10 : Int32).toInt = 10 from by decide +kernel, nq_y_26] at h9; exact h9
                      have nq_y_33 : (y_33 : Int32).toNatClampNeg = (n0 : Int32).toNatClampNeg + 5 := by have h9 := (y_own_o qw_31_1).2; omega
                      have qw_31_1k : y_own kd vl 10 ((n0 : Int32).toNatClampNeg + 4) = some ((n0 : Int32).toNatClampNeg + 5) := by rw [qw_31_1, nq_y_33]
                      refine lv_aload_n hx hb dX6_readOrder_88 rfl (lv_at hl 1 rfl) ?_
                      refine lv_iconst (v := 1) hx hb dX6_readOrder_89 (by decide +kernel) ?_
                      refine lv_bipush (v := 9) hx hb dX6_readOrder_90 (by decide +kernel) ?_
                      refine dg_calli hS hA1 hA (va_runV (As := [.int 1, .int 9]) (rest := []) F (c_rd_takeNumber l g D o S_31 1 9 en kd vl y_33 f_y_33 (by omega) ke ((congrFun ((m_31.2 211 _ sX_211 (dk_dq rfl)).1.trans ((dg_uf_ne e_29 (fun z => by have h9 := sX_211; rw [z, (rX_6 gd hk_gd)] at h9; cases h9)).trans ((m_22.2 211 _ sX_211 (dk_dq rfl)).1.trans ((m_12.2 211 _ sX_211 (dk_dq rfl)).1.trans ((dg_uf_ne e_10 (fun z => by have h9 := sX_211; rw [z, (rX_5 gd hk_gd)] at h9; cases h9)).trans ((m_5.2 211 _ sX_211 (dk_dq rfl)).1.trans (m_2.2 211 _ sX_211 (dk_dq rfl)).1)))))) _).trans f_ke) (by omega) (by omega) (fun k9 h9 => (congrFun ((m_31.2 211 _ sX_211 (dk_dq rfl)).1.trans ((dg_uf_ne e_29 (fun z => by have h9 := sX_211; rw [z, (rX_6 gd hk_gd)] at h9; cases h9)).trans ((m_22.2 211 _ sX_211 (dk_dq rfl)).1.trans ((m_12.2 211 _ sX_211 (dk_dq rfl)).1.trans ((dg_uf_ne e_10 (fun z => by have h9 := sX_211; rw [z, (rX_5 gd hk_gd)] at h9; cases h9)).trans ((m_5.2 211 _ sX_211 (dk_dq rfl)).1.trans (m_2.2 211 _ sX_211 (dk_dq rfl)).1)))))) k9).trans (hkd k9 h9)) (fun k9 h9 => (congrFun ((m_31.2 213 _ sX_213 (dk_dq rfl)).1.trans ((dg_uf_ne e_29 (fun z => by have h9 := sX_213; rw [z, (rX_6 gd hk_gd)] at h9; cases h9)).trans ((m_22.2 213 _ sX_213 (dk_dq rfl)).1.trans ((m_12.2 213 _ sX_213 (dk_dq rfl)).1.trans ((dg_uf_ne e_10 (fun z => by have h9 := sX_213; rw [z, (rX_5 gd hk_gd)] at h9; cases h9)).trans ((m_5.2 213 _ sX_213 (dk_dq rfl)).1.trans (m_2.2 213 _ sX_213 (dk_dq rfl)).1)))))) k9).trans (hvl k9 h9)) I_31 H.size) (cwV 2 hts (bw_V wB_49 wB_50 wB_51 wB_24 wB_48) rfl rfl rfl (by decide +kernel) ⟨Nat.le_of_ble_eq_true rfl, Nat.le_of_ble_eq_true rfl⟩) (dg_preV sX_209 rfl K ST hP hS hA1 hA) rfl rfl hl.1 rfl (lv_room (Nat.le_of_ble_eq_true rfl)) dX6_readOrder_92 ⟨Nat.le_of_ble_eq_true rfl, Nat.le_of_ble_eq_true rfl⟩) (fun x_40 S_41 hw_41 H locs hP hS => ?_)
                      obtain ⟨I_41, m_41, w_41_0, w_41_1, w_41_2, -⟩ := hw_41
                      have M_41 := dg_sm.tr M_31 m_41 (dk_dq rfl) (dk_dq rfl)
                      have hz_42 : (1 : Int32).toInt = 1 := by decide +kernel
                      have hz_43 : (9 : Int32).toInt = 9 := by decide +kernel
                      have w_41_0 : 0 ≤ (x_40).toInt ∧ (x_40).toInt ≤ 1 := w_41_0
                      obtain ⟨y_44, f_y_44, w_41_1⟩ := w_41_1
                      have w_41_1 : (x_40).toInt = 1 → (y_44).toInt = (vl (y_33 : Int32).toNatClampNeg).toInt ∧ ((1 : Int32)).toInt ≤ (y_44).toInt ∧ (y_44).toInt ≤ ((9 : Int32)).toInt := w_41_1
                      obtain ⟨y_45, f_y_45, w_41_2⟩ := w_41_2
                      have w_41_2 : (y_45).toInt ≤ (en).toInt ∧ g_ans x_40 (y_num kd vl ((1 : Int32)).toInt ((9 : Int32)).toInt (y_33 : Int32).toNatClampNeg) (y_45 : Int32).toNatClampNeg := w_41_2
                      have b_y_45 : 0 ≤ (y_45).toInt ∧ (y_45).toInt ≤ 1600 := dg_I.intb (lo := 0) (hi := 1600) I_41 sX_209 (by decide +kernel) f_y_45
                      refine lv_if_ne (tgt := 100) hx hb dX6_readOrder_95 (dk_dq rfl) (fun c_46 => ?_) (fun c_46 => ?_)
                      · as_aux_lemma =>
                          have jc_46 := dk_neqc (k := 0) (by decide +kernel) c_46
                          have qw_41_2 : y_num kd vl 1 9 ((n0 : Int32).toNatClampNeg + 5) = some (y_45 : Int32).toNatClampNeg := by have h9 := w_41_2.2.1 (by omega); rw [show (1 : Int32).toInt = 1 from by decide +kernel, show (9 : Int32).toInt = 9 from by decide +kernel, nq_y_33] at h9; exact h9
                          have nq_y_45 : (y_45 : Int32).toNatClampNeg = (n0 : Int32).toNatClampNeg + 6 := by have h9 := (y_num_o qw_41_2).2.2.2; omega
                          have qw_41_2k : y_num kd vl 1 9 ((n0 : Int32).toNatClampNeg + 5) = some ((n0 : Int32).toNatClampNeg + 6) := by rw [qw_41_2, nq_y_45]
                          refine lv_aload_n hx hb dX6_readOrder_100 rfl (lv_at hl 1 rfl) ?_
                          refine dg_get (C := RX6) (T := TX6) (N := 8) hx hb hts (fun w h => bw_mem (wU_X6 w h)) hown K hP sX_209 rfl 3 (dk_dq rfl) (hts _ (bw_mem wB_38)) (fun _ h9 => h9) (v := .ref (o + gd)) (((m_41.1 209 3 _ sX_209 (dk_dq rfl)).trans ((m_31.1 209 3 _ sX_209 (dk_dq rfl)).trans ((dg_uf_F e_29 209 3).trans ((m_22.1 209 3 _ sX_209 (dk_dq rfl)).trans ((m_12.1 209 3 _ sX_209 (dk_dq rfl)).trans ((dg_uf_F e_10 209 3).trans ((m_5.1 209 3 _ sX_209 (dk_dq rfl)).trans (m_2.1 209 3 _ sX_209 (dk_dq rfl))))))))).trans f_gd) dX6_readOrder_101 ?_
                          refine dg_get (C := RX2) (T := TX2) (N := 19) hx hb hts (fun w h => bw_mem (wU_X2 w h)) hown K hP (rX_0 gd hk_gd) rfl 14 (dk_dq rfl) (hts _ (bw_mem wB_85)) (fun _ h9 => h9) (v := .ref (o + (gd + 7))) (show S_41.1 gd 14 = .ref (o + (gd + 7)) from dg_I.rel (d := 7) I_41 (rX_0 gd hk_gd) (by decide +kernel)) dX6_readOrder_104 ?_
                          refine lv_iload_n hx hb dX6_readOrder_107 rfl (lv_at hl 0 rfl) ?_
                          refine lv_aload_n hx hb dX6_readOrder_108 rfl (lv_at hl 1 rfl) ?_
                          refine dg_get (C := RX6) (T := TX6) (N := 8) hx hb hts (fun w h => bw_mem (wU_X6 w h)) hown K hP sX_209 rfl 5 (dk_dq rfl) (hts _ (bw_mem wB_41)) (fun _ h9 => h9) (v := .int y_44) f_y_44 dX6_readOrder_109 ?_
                          have hin_47 : vp_in od 5 := (dk_inv2 (by omega))
                          refine dg_iast hx hb K hP hS hA1 (rX_7 gd hk_gd) hin_47 dX6_readOrder_112 (fun S_48 e_48 H locs hP hS => ?_)
                          have I_48 := dg_I.uf0 I_41 e_48 (rX_7 gd hk_gd) (by decide +kernel)
                          have M_48 := dg_sm.uf M_41 e_48 (rX_7 gd hk_gd) (dk_dq rfl)
                          have GO_48 := GOX.uf (GOX.keep (GOX.keep GO_29 m_31 (dk_dq rfl) (dk_dq rfl)) m_41 (dk_dq rfl) (dk_dq rfl)) hk_gd hd0 (i := 7) (dk_dq rfl) e_48
                          refine lv_aload_n hx hb dX6_readOrder_113 rfl (lv_at hl 1 rfl) ?_
                          refine lv_bipush (v := 11) hx hb dX6_readOrder_114 (by decide +kernel) ?_
                          refine dg_calli hS hA1 hA (va_runV (As := [.int 11]) (rest := []) F (c_rd_takeOwn l g D o S_48 11 en kd vl y_45 ((dg_uf_F e_48 209 4).trans f_y_45) (by omega) ke ((congrFun ((dg_uf_ne e_48 (fun z => by have h9 := sX_211; rw [z, (rX_7 gd hk_gd)] at h9; cases h9)).trans ((m_41.2 211 _ sX_211 (dk_dq rfl)).1.trans ((m_31.2 211 _ sX_211 (dk_dq rfl)).1.trans ((dg_uf_ne e_29 (fun z => by have h9 := sX_211; rw [z, (rX_6 gd hk_gd)] at h9; cases h9)).trans ((m_22.2 211 _ sX_211 (dk_dq rfl)).1.trans ((m_12.2 211 _ sX_211 (dk_dq rfl)).1.trans ((dg_uf_ne e_10 (fun z => by have h9 := sX_211; rw [z, (rX_5 gd hk_gd)] at h9; cases h9)).trans ((m_5.2 211 _ sX_211 (dk_dq rfl)).1.trans (m_2.2 211 _ sX_211 (dk_dq rfl)).1)))))))) _).trans f_ke) (by omega) (by omega) (fun k9 h9 => (congrFun ((dg_uf_ne e_48 (fun z => by have h9 := sX_211; rw [z, (rX_7 gd hk_gd)] at h9; cases h9)).trans ((m_41.2 211 _ sX_211 (dk_dq rfl)).1.trans ((m_31.2 211 _ sX_211 (dk_dq rfl)).1.trans ((dg_uf_ne e_29 (fun z => by have h9 := sX_211; rw [z, (rX_6 gd hk_gd)] at h9; cases h9)).trans ((m_22.2 211 _ sX_211 (dk_dq rfl)).1.trans ((m_12.2 211 _ sX_211 (dk_dq rfl)).1.trans ((dg_uf_ne e_10 (fun z => by have h9 := sX_211; rw [z, (rX_5 gd hk_gd)] at h9; cases h9)).trans ((m_5.2 211 _ sX_211 (dk_dq rfl)).1.trans (m_2.2 211 _ sX_211 (dk_dq rfl)).1)))))))) k9).trans (hkd k9 h9)) (fun k9 h9 => (congrFun ((dg_uf_ne e_48 (fun z => by have h9 := sX_213; rw [z, (rX_7 gd hk_gd)] at h9; cases h9)).trans ((m_41.2 213 _ sX_213 (dk_dq rfl)).1.trans ((m_31.2 213 _ sX_213 (dk_dq rfl)).1.trans ((dg_uf_ne e_29 (fun z => by have h9 := sX_213; rw [z, (rX_6 gd hk_gd)] at h9; cases h9)).trans ((m_22.2 213 _ sX_213 (dk_dq rfl)).1.trans ((m_12.2 213 _ sX_213 (dk_dq rfl)).1.trans ((dg_uf_ne e_10 (fun z => by have h9 := sX_213; rw [z, (rX_5 gd hk_gd)] at h9; cases h9)).trans ((m_5.2 213 _ sX_213 (dk_dq rfl)).1.trans (m_2.2 213 _ sX_213 (dk_dq rfl)).1)))))))) k9).trans (hvl k9 h9)) I_48 H.size) (cwV 1 hts (bw_V wB_77 wB_78 wB_79 wB_24 wB_76) rfl rfl rfl (by decide +kernel) ⟨Nat.le_of_ble_eq_true rfl, Nat.le_of_ble_eq_true rfl⟩) (dg_preV sX_209 rfl K ST hP hS hA1 hA) rfl rfl hl.1 rfl (lv_room (Nat.le_of_ble_eq_true rfl)) dX6_readOrder_116 ⟨Nat.le_of_ble_eq_true rfl, Nat.le_of_ble_eq_true rfl⟩) (fun x_49 S_50 hw_50 H locs hP hS => ?_)
                          obtain ⟨I_50, m_50, w_50_0, w_50_1, -⟩ := hw_50
                          have M_50 := dg_sm.tr M_48 m_50 (dk_dq rfl) (dk_dq rfl)
                          have hz_51 : (11 : Int32).toInt = 11 := by decide +kernel
                          have w_50_0 : 0 ≤ (x_49).toInt ∧ (x_49).toInt ≤ 1 := w_50_0
                          obtain ⟨y_52, f_y_52, w_50_1⟩ := w_50_1
                          have w_50_1 : (y_52).toInt ≤ (en).toInt ∧ g_ans x_49 (y_own kd vl ((11 : Int32)).toInt (y_45 : Int32).toNatClampNeg) (y_52 : Int32).toNatClampNeg := w_50_1
                          have b_y_52 : 0 ≤ (y_52).toInt ∧ (y_52).toInt ≤ 1600 := dg_I.intb (lo := 0) (hi := 1600) I_50 sX_209 (by decide +kernel) f_y_52
                          refine lv_if_eq (tgt := 133) hx hb dX6_readOrder_119 (dk_dq rfl) (fun c_53 => ?_) (fun c_53 => ?_)
                          · have jc_53 := dk_eqc (k := 0) (by decide +kernel) c_53
                            have qw_50_1 : y_own kd vl 11 ((n0 : Int32).toNatClampNeg + 6) = none := by have h9 := w_50_1.2.2 (by omega); rw [show (11 : Int32).toInt = 11 from by decide +kernel, nq_y_45] at h9; exact h9
                            refine lv_iconst (v := 0) hx hb dX6_readOrder_133 (by decide +kernel) ?_
                            have hz_54 : (0 : Int32).toInt = 0 := by decide +kernel
                            have hz_55 : (0 : Int32).toInt = 0 := by decide +kernel
                            have hz_56 : (0 : Int32).toInt = 0 := by decide +kernel
                            have hz_57 : (0 : Int32).toInt = 0 := by decide +kernel
                            have hz_58 : (0 : Int32).toInt = 0 := by decide +kernel
                            have ql_od : ¬ (od).toInt = 5 := by omega
                            refine W.widen (k := 0) (n := 0) (Nat.le_of_ble_eq_true rfl) (Nat.le_of_ble_eq_true rfl) ?_
                            exact dg_iret hx hb hr hlocks (by decide +kernel) hP hS ⟨I_50, M_50, (by decide +kernel), (m_hid.mk (fun q9 => absurd q9 (by omega))), ⟨od, (((m_50.1 gd 11 _ (rX_0 gd hk_gd) (dk_dq rfl)).trans ((dg_uf_F e_48 gd 11).trans ((m_41.1 gd 11 _ (rX_0 gd hk_gd) (dk_dq rfl)).trans ((m_31.1 gd 11 _ (rX_0 gd hk_gd) (dk_dq rfl)).trans ((dg_uf_F e_29 gd 11).trans ((m_22.1 gd 11 _ (rX_0 gd hk_gd) (dk_dq rfl)).trans ((m_12.1 gd 11 _ (rX_0 gd hk_gd) (dk_dq rfl)).trans ((dg_uf_F e_10 gd 11).trans ((m_5.1 gd 11 _ (rX_0 gd hk_gd) (dk_dq rfl)).trans (m_2.1 gd 11 _ (rX_0 gd hk_gd) (dk_dq rfl))))))))))).trans f_od), (by omega)⟩, (fun q9 => absurd q9 (by omega)), ⟨y_52, f_y_52, ⟨by omega, g_ans.n (by omega) (by simp [nq_y_3, nq_y_7, qw_5_2k, nq_y_14, qw_12_1k, nq_y_26, qw_22_2k, nq_y_33, qw_31_1k, nq_y_45, qw_41_2k, qw_50_1, ql_od])⟩⟩, (GOX.keep GO_48 m_50 (dk_dq rfl) (dk_dq rfl)), trivial⟩ dX6_readOrder_134
                          · as_aux_lemma =>
                              have jc_53 := dk_neqc (k := 0) (by decide +kernel) c_53
                              have qw_50_1 : y_own kd vl 11 ((n0 : Int32).toNatClampNeg + 6) = some (y_52 : Int32).toNatClampNeg := by have h9 := w_50_1.2.1 (by omega); rw [show (11 : Int32).toInt = 11 from by decide +kernel, nq_y_45] at h9; exact h9
                              have nq_y_52 : (y_52 : Int32).toNatClampNeg = (n0 : Int32).toNatClampNeg + 7 := by have h9 := (y_own_o qw_50_1).2; omega
                              have qw_50_1k : y_own kd vl 11 ((n0 : Int32).toNatClampNeg + 6) = some ((n0 : Int32).toNatClampNeg + 7) := by rw [qw_50_1, nq_y_52]
                              refine lv_aload_n hx hb dX6_readOrder_122 rfl (lv_at hl 1 rfl) ?_
                              refine lv_iconst (v := 0) hx hb dX6_readOrder_123 (by decide +kernel) ?_
                              refine lv_sipush (v := 999) hx hb dX6_readOrder_124 (by decide +kernel) ?_
                              refine dg_calli hS hA1 hA (va_runV (As := [.int 0, .int 999]) (rest := []) F (c_rd_takeNumber l g D o S_50 0 999 en kd vl y_52 f_y_52 (by omega) ke ((congrFun ((m_50.2 211 _ sX_211 (dk_dq rfl)).1.trans ((dg_uf_ne e_48 (fun z => by have h9 := sX_211; rw [z, (rX_7 gd hk_gd)] at h9; cases h9)).trans ((m_41.2 211 _ sX_211 (dk_dq rfl)).1.trans ((m_31.2 211 _ sX_211 (dk_dq rfl)).1.trans ((dg_uf_ne e_29 (fun z => by have h9 := sX_211; rw [z, (rX_6 gd hk_gd)] at h9; cases h9)).trans ((m_22.2 211 _ sX_211 (dk_dq rfl)).1.trans ((m_12.2 211 _ sX_211 (dk_dq rfl)).1.trans ((dg_uf_ne e_10 (fun z => by have h9 := sX_211; rw [z, (rX_5 gd hk_gd)] at h9; cases h9)).trans ((m_5.2 211 _ sX_211 (dk_dq rfl)).1.trans (m_2.2 211 _ sX_211 (dk_dq rfl)).1))))))))) _).trans f_ke) (by omega) (by omega) (fun k9 h9 => (congrFun ((m_50.2 211 _ sX_211 (dk_dq rfl)).1.trans ((dg_uf_ne e_48 (fun z => by have h9 := sX_211; rw [z, (rX_7 gd hk_gd)] at h9; cases h9)).trans ((m_41.2 211 _ sX_211 (dk_dq rfl)).1.trans ((m_31.2 211 _ sX_211 (dk_dq rfl)).1.trans ((dg_uf_ne e_29 (fun z => by have h9 := sX_211; rw [z, (rX_6 gd hk_gd)] at h9; cases h9)).trans ((m_22.2 211 _ sX_211 (dk_dq rfl)).1.trans ((m_12.2 211 _ sX_211 (dk_dq rfl)).1.trans ((dg_uf_ne e_10 (fun z => by have h9 := sX_211; rw [z, (rX_5 gd hk_gd)] at h9; cases h9)).trans ((m_5.2 211 _ sX_211 (dk_dq rfl)).1.trans (m_2.2 211 _ sX_211 (dk_dq rfl)).1))))))))) k9).trans (hkd k9 h9)) (fun k9 h9 => (congrFun ((m_50.2 213 _ sX_213 (dk_dq rfl)).1.trans ((dg_uf_ne e_48 (fun z => by have h9 := sX_213; rw [z, (rX_7 gd hk_gd)] at h9; cases h9)).trans ((m_41.2 213 _ sX_213 (dk_dq rfl)).1.trans ((m_31.2 213 _ sX_213 (dk_dq rfl)).1.trans ((dg_uf_ne e_29 (fun z => by have h9 := sX_213; rw [z, (rX_6 gd hk_gd)] at h9; cases h9)).trans ((m_22.2 213 _ sX_213 (dk_dq rfl)).1.trans ((m_12.2 213 _ sX_213 (dk_dq rfl)).1.trans ((dg_uf_ne e_10 (fun z => by have h9 := sX_213; rw [z, (rX_5 gd hk_gd)] at h9; cases h9)).trans ((m_5.2 213 _ sX_213 (dk_dq rfl)).1.trans (m_2.2 213 _ sX_213 (dk_dq rfl)).1))))))))) k9).trans (hvl k9 h9)) I_50 H.size) (cwV 2 hts (bw_V wB_49 wB_50 wB_51 wB_24 wB_48) rfl rfl rfl (by decide +kernel) ⟨Nat.le_of_ble_eq_true rfl, Nat.le_of_ble_eq_true rfl⟩) (dg_preV sX_209 rfl K ST hP hS hA1 hA) rfl rfl hl.1 rfl (lv_room (Nat.le_of_ble_eq_true rfl)) dX6_readOrder_127 ⟨Nat.le_of_ble_eq_true rfl, Nat.le_of_ble_eq_true rfl⟩) (fun x_59 S_60 hw_60 H locs hP hS => ?_)
                              obtain ⟨I_60, m_60, w_60_0, w_60_1, w_60_2, -⟩ := hw_60
                              have M_60 := dg_sm.tr M_50 m_60 (dk_dq rfl) (dk_dq rfl)
                              have hz_61 : (0 : Int32).toInt = 0 := by decide +kernel
                              have hz_62 : (999 : Int32).toInt = 999 := by decide +kernel
                              have w_60_0 : 0 ≤ (x_59).toInt ∧ (x_59).toInt ≤ 1 := w_60_0
                              obtain ⟨y_63, f_y_63, w_60_1⟩ := w_60_1
                              have w_60_1 : (x_59).toInt = 1 → (y_63).toInt = (vl (y_52 : Int32).toNatClampNeg).toInt ∧ ((0 : Int32)).toInt ≤ (y_63).toInt ∧ (y_63).toInt ≤ ((999 : Int32)).toInt := w_60_1
                              obtain ⟨y_64, f_y_64, w_60_2⟩ := w_60_2
                              have w_60_2 : (y_64).toInt ≤ (en).toInt ∧ g_ans x_59 (y_num kd vl ((0 : Int32)).toInt ((999 : Int32)).toInt (y_52 : Int32).toNatClampNeg) (y_64 : Int32).toNatClampNeg := w_60_2
                              have b_y_64 : 0 ≤ (y_64).toInt ∧ (y_64).toInt ≤ 1600 := dg_I.intb (lo := 0) (hi := 1600) I_60 sX_209 (by decide +kernel) f_y_64
                              refine lv_if_ne (tgt := 135) hx hb dX6_readOrder_130 (dk_dq rfl) (fun c_65 => ?_) (fun c_65 => ?_)
                              · as_aux_lemma =>
                                  have jc_65 := dk_neqc (k := 0) (by decide +kernel) c_65
                                  have qw_60_2 : y_num kd vl 0 999 ((n0 : Int32).toNatClampNeg + 7) = some (y_64 : Int32).toNatClampNeg := by have h9 := w_60_2.2.1 (by omega); rw [show (0 : Int32).toInt = 0 from by decide +kernel, show (999 : Int32).toInt = 999 from by decide +kernel, nq_y_52] at h9; exact h9
                                  have nq_y_64 : (y_64 : Int32).toNatClampNeg = (n0 : Int32).toNatClampNeg + 8 := by have h9 := (y_num_o qw_60_2).2.2.2; omega
                                  have qw_60_2k : y_num kd vl 0 999 ((n0 : Int32).toNatClampNeg + 7) = some ((n0 : Int32).toNatClampNeg + 8) := by rw [qw_60_2, nq_y_64]
                                  refine lv_aload_n hx hb dX6_readOrder_135 rfl (lv_at hl 1 rfl) ?_
                                  refine dg_get (C := RX6) (T := TX6) (N := 8) hx hb hts (fun w h => bw_mem (wU_X6 w h)) hown K hP sX_209 rfl 3 (dk_dq rfl) (hts _ (bw_mem wB_38)) (fun _ h9 => h9) (v := .ref (o + gd)) (((m_60.1 209 3 _ sX_209 (dk_dq rfl)).trans ((m_50.1 209 3 _ sX_209 (dk_dq rfl)).trans ((dg_uf_F e_48 209 3).trans ((m_41.1 209 3 _ sX_209 (dk_dq rfl)).trans ((m_31.1 209 3 _ sX_209 (dk_dq rfl)).trans ((dg_uf_F e_29 209 3).trans ((m_22.1 209 3 _ sX_209 (dk_dq rfl)).trans ((m_12.1 209 3 _ sX_209 (dk_dq rfl)).trans ((dg_uf_F e_10 209 3).trans ((m_5.1 209 3 _ sX_209 (dk_dq rfl)).trans (m_2.1 209 3 _ sX_209 (dk_dq rfl)))))))))))).trans f_gd) dX6_readOrder_136 ?_
                                  refine dg_get (C := RX2) (T := TX2) (N := 19) hx hb hts (fun w h => bw_mem (wU_X2 w h)) hown K hP (rX_0 gd hk_gd) rfl 15 (dk_dq rfl) (hts _ (bw_mem wB_86)) (fun _ h9 => h9) (v := .ref (o + (gd + 8))) (show S_60.1 gd 15 = .ref (o + (gd + 8)) from dg_I.rel (d := 8) I_60 (rX_0 gd hk_gd) (by decide +kernel)) dX6_readOrder_139 ?_
                                  refine lv_iload_n hx hb dX6_readOrder_142 rfl (lv_at hl 0 rfl) ?_
                                  refine lv_aload_n hx hb dX6_readOrder_143 rfl (lv_at hl 1 rfl) ?_
                                  refine dg_get (C := RX6) (T := TX6) (N := 8) hx hb hts (fun w h => bw_mem (wU_X6 w h)) hown K hP sX_209 rfl 5 (dk_dq rfl) (hts _ (bw_mem wB_41)) (fun _ h9 => h9) (v := .int y_63) f_y_63 dX6_readOrder_144 ?_
                                  have hin_66 : vp_in od 5 := (dk_inv2 (by omega))
                                  refine dg_iast hx hb K hP hS hA1 (rX_8 gd hk_gd) hin_66 dX6_readOrder_147 (fun S_67 e_67 H locs hP hS => ?_)
                                  have I_67 := dg_I.uf0 I_60 e_67 (rX_8 gd hk_gd) (by decide +kernel)
                                  have M_67 := dg_sm.uf M_60 e_67 (rX_8 gd hk_gd) (dk_dq rfl)
                                  have GO_67 := GOX.uf (GOX.keep (GOX.keep GO_48 m_50 (dk_dq rfl) (dk_dq rfl)) m_60 (dk_dq rfl) (dk_dq rfl)) hk_gd hd0 (i := 8) (dk_dq rfl) e_67
                                  refine lv_aload_n hx hb dX6_readOrder_148 rfl (lv_at hl 1 rfl) ?_
                                  refine dg_get (C := RX6) (T := TX6) (N := 8) hx hb hts (fun w h => bw_mem (wU_X6 w h)) hown K hP sX_209 rfl 3 (dk_dq rfl) (hts _ (bw_mem wB_38)) (fun _ h9 => h9) (v := .ref (o + gd)) (((dg_uf_F e_67 209 3).trans ((m_60.1 209 3 _ sX_209 (dk_dq rfl)).trans ((m_50.1 209 3 _ sX_209 (dk_dq rfl)).trans ((dg_uf_F e_48 209 3).trans ((m_41.1 209 3 _ sX_209 (dk_dq rfl)).trans ((m_31.1 209 3 _ sX_209 (dk_dq rfl)).trans ((dg_uf_F e_29 209 3).trans ((m_22.1 209 3 _ sX_209 (dk_dq rfl)).trans ((m_12.1 209 3 _ sX_209 (dk_dq rfl)).trans ((dg_uf_F e_10 209 3).trans ((m_5.1 209 3 _ sX_209 (dk_dq rfl)).trans (m_2.1 209 3 _ sX_209 (dk_dq rfl))))))))))))).trans f_gd) dX6_readOrder_149 ?_
                                  refine lv_dup hx hb dX6_readOrder_152 rfl ?_
                                  refine dg_get (C := RX2) (T := TX2) (N := 19) hx hb hts (fun w h => bw_mem (wU_X2 w h)) hown K hP (rX_0 gd hk_gd) rfl 11 (dk_dq rfl) (hts _ (bw_mem wB_82)) (fun _ h9 => h9) (v := .int od) (((dg_uf_F e_67 gd 11).trans ((m_60.1 gd 11 _ (rX_0 gd hk_gd) (dk_dq rfl)).trans ((m_50.1 gd 11 _ (rX_0 gd hk_gd) (dk_dq rfl)).trans ((dg_uf_F e_48 gd 11).trans ((m_41.1 gd 11 _ (rX_0 gd hk_gd) (dk_dq rfl)).trans ((m_31.1 gd 11 _ (rX_0 gd hk_gd) (dk_dq rfl)).trans ((dg_uf_F e_29 gd 11).trans ((m_22.1 gd 11 _ (rX_0 gd hk_gd) (dk_dq rfl)).trans ((m_12.1 gd 11 _ (rX_0 gd hk_gd) (dk_dq rfl)).trans ((dg_uf_F e_10 gd 11).trans ((m_5.1 gd 11 _ (rX_0 gd hk_gd) (dk_dq rfl)).trans (m_2.1 gd 11 _ (rX_0 gd hk_gd) (dk_dq rfl))))))))))))).trans f_od) dX6_readOrder_153 ?_
                                  refine lv_iconst (v := 1) hx hb dX6_readOrder_156 (by decide +kernel) ?_
                                  refine lv_iadd hx hb dX6_readOrder_157 ?_
                                  refine lv_topi (fun x_68 ex_68 => ?_)
                                  have jx_68 : (x_68).toInt = (od).toInt + 1 := by rw [ex_68]; exact dk_addT2 rfl (by decide +kernel) (by omega)
                                  refine dg_put (ci := 2) (v := .int x_68) (ty := tyX2 11) (C := RX2) (T := TX2) (N := 19) hx hb hts (fun w h => bw_mem (wU_X2 w h)) tyX2 tyX2_ok nmX2 hown K hP hS hA1 (rX_0 gd hk_gd) rfl 11 (dk_dq rfl) (hts _ (bw_mem wB_82)) (fun _ h9 => h9) rfl (by decide +kernel) rfl rfl dX6_readOrder_158 (fun S_69 e_69 H locs hP hS => ?_)
                                  have I_69 := dg_I.uFi (lo := 0) (hi := 5) I_67 e_69 (rX_0 gd hk_gd) (by decide +kernel) (show 0 ≤ (x_68).toInt ∧ (x_68).toInt ≤ 5 from (by omega))
                                  have M_69 := dg_sm.uF M_67 e_69 (rX_0 gd hk_gd) (dk_dq rfl)
                                  have GO_69 := GOX.uF GO_67 hd0 e_69
                                  refine lv_iconst (v := 1) hx hb dX6_readOrder_161 (by decide +kernel) ?_
                                  have hz_70 : (1 : Int32).toInt = 1 := by decide +kernel
                                  have hz_71 : (1 : Int32).toInt = 1 := by decide +kernel
                                  have hz_72 : (1 : Int32).toInt = 1 := by decide +kernel
                                  have hz_73 : (1 : Int32).toInt = 1 := by decide +kernel
                                  have hz_74 : (1 : Int32).toInt = 1 := by decide +kernel
                                  have ql_od : ¬ (od).toInt = 5 := by omega
                                  refine W.widen (k := 0) (n := 0) (Nat.le_of_ble_eq_true rfl) (Nat.le_of_ble_eq_true rfl) ?_
                                  exact dg_iret hx hb hr hlocks (by decide +kernel) hP hS ⟨I_69, M_69, (by decide +kernel), (m_hid.mk (fun _ => ⟨y_25, y_44, y_63, by have h9_0 := (w_22_1 (by omega)).1; rw [nq_y_14] at h9_0; (try simp only [Nat.add_assoc, Nat.reduceAdd] at h9_0); omega, by have h9_1 := (w_41_1 (by omega)).1; rw [nq_y_33] at h9_1; (try simp only [Nat.add_assoc, Nat.reduceAdd] at h9_1); omega, by have h9_2 := (w_60_1 (by omega)).1; rw [nq_y_52] at h9_2; (try simp only [Nat.add_assoc, Nat.reduceAdd] at h9_2); omega, by rw [((dg_uF_f e_69 (gd + 6)).trans ((dg_uf_ne e_67 (by omega)).trans ((m_60.2 (gd + 6) _ (rX_6 gd hk_gd) (dk_dq rfl)).1.trans ((m_50.2 (gd + 6) _ (rX_6 gd hk_gd) (dk_dq rfl)).1.trans ((dg_uf_ne e_48 (by omega)).trans ((m_41.2 (gd + 6) _ (rX_6 gd hk_gd) (dk_dq rfl)).1.trans (m_31.2 (gd + 6) _ (rX_6 gd hk_gd) (dk_dq rfl)).1)))))), dg_uf_at e_29, ((m_22.2 (gd + 6) _ (rX_6 gd hk_gd) (dk_dq rfl)).1.trans ((m_12.2 (gd + 6) _ (rX_6 gd hk_gd) (dk_dq rfl)).1.trans ((dg_uf_ne e_10 (by omega)).trans ((m_5.2 (gd + 6) _ (rX_6 gd hk_gd) (dk_dq rfl)).1.trans (m_2.2 (gd + 6) _ (rX_6 gd hk_gd) (dk_dq rfl)).1))))], by rw [((dg_uF_f e_69 (gd + 7)).trans ((dg_uf_ne e_67 (by omega)).trans ((m_60.2 (gd + 7) _ (rX_7 gd hk_gd) (dk_dq rfl)).1.trans (m_50.2 (gd + 7) _ (rX_7 gd hk_gd) (dk_dq rfl)).1))), dg_uf_at e_48, ((m_41.2 (gd + 7) _ (rX_7 gd hk_gd) (dk_dq rfl)).1.trans ((m_31.2 (gd + 7) _ (rX_7 gd hk_gd) (dk_dq rfl)).1.trans ((dg_uf_ne e_29 (by omega)).trans ((m_22.2 (gd + 7) _ (rX_7 gd hk_gd) (dk_dq rfl)).1.trans ((m_12.2 (gd + 7) _ (rX_7 gd hk_gd) (dk_dq rfl)).1.trans ((dg_uf_ne e_10 (by omega)).trans ((m_5.2 (gd + 7) _ (rX_7 gd hk_gd) (dk_dq rfl)).1.trans (m_2.2 (gd + 7) _ (rX_7 gd hk_gd) (dk_dq rfl)).1)))))))], by rw [(dg_uF_f e_69 (gd + 8)), dg_uf_at e_67, ((m_60.2 (gd + 8) _ (rX_8 gd hk_gd) (dk_dq rfl)).1.trans ((m_50.2 (gd + 8) _ (rX_8 gd hk_gd) (dk_dq rfl)).1.trans ((dg_uf_ne e_48 (by omega)).trans ((m_41.2 (gd + 8) _ (rX_8 gd hk_gd) (dk_dq rfl)).1.trans ((m_31.2 (gd + 8) _ (rX_8 gd hk_gd) (dk_dq rfl)).1.trans ((dg_uf_ne e_29 (by omega)).trans ((m_22.2 (gd + 8) _ (rX_8 gd hk_gd) (dk_dq rfl)).1.trans ((m_12.2 (gd + 8) _ (rX_8 gd hk_gd) (dk_dq rfl)).1.trans ((dg_uf_ne e_10 (by omega)).trans ((m_5.2 (gd + 8) _ (rX_8 gd hk_gd) (dk_dq rfl)).1.trans (m_2.2 (gd + 8) _ (rX_8 gd hk_gd) (dk_dq rfl)).1))))))))))]⟩)), ⟨x_68, (dg_uF_at e_69), (by omega)⟩, (fun _ => ⟨y_6, by have h9 := w_5_1 (by omega); rw [nq_y_3] at h9; omega, by rw [((dg_uF_f e_69 (gd + 5)).trans ((dg_uf_ne e_67 (by omega)).trans ((m_60.2 (gd + 5) _ (rX_5 gd hk_gd) (dk_dq rfl)).1.trans ((m_50.2 (gd + 5) _ (rX_5 gd hk_gd) (dk_dq rfl)).1.trans ((dg_uf_ne e_48 (by omega)).trans ((m_41.2 (gd + 5) _ (rX_5 gd hk_gd) (dk_dq rfl)).1.trans ((m_31.2 (gd + 5) _ (rX_5 gd hk_gd) (dk_dq rfl)).1.trans ((dg_uf_ne e_29 (by omega)).trans ((m_22.2 (gd + 5) _ (rX_5 gd hk_gd) (dk_dq rfl)).1.trans (m_12.2 (gd + 5) _ (rX_5 gd hk_gd) (dk_dq rfl)).1))))))))), dg_uf_at e_10, ((m_5.2 (gd + 5) _ (rX_5 gd hk_gd) (dk_dq rfl)).1.trans (m_2.2 (gd + 5) _ (rX_5 gd hk_gd) (dk_dq rfl)).1), hfo]⟩), ⟨y_64, (((dg_uF_ne e_69 (fun z => absurd z.2 (dk_dq rfl))).trans (dg_uf_F e_67 209 4)).trans f_y_64), ⟨by omega, g_ans.y (by omega) (by simp [nq_y_3, nq_y_7, qw_5_2k, nq_y_14, qw_12_1k, nq_y_26, qw_22_2k, nq_y_33, qw_31_1k, nq_y_45, qw_41_2k, nq_y_52, qw_50_1k, nq_y_64, qw_60_2k, ql_od])⟩⟩, GO_69, trivial⟩ dX6_readOrder_162
                              · have jc_65 := dk_eqc (k := 0) (by decide +kernel) c_65
                                have qw_60_2 : y_num kd vl 0 999 ((n0 : Int32).toNatClampNeg + 7) = none := by have h9 := w_60_2.2.2 (by omega); rw [show (0 : Int32).toInt = 0 from by decide +kernel, show (999 : Int32).toInt = 999 from by decide +kernel, nq_y_52] at h9; exact h9
                                refine lv_iconst (v := 0) hx hb dX6_readOrder_133 (by decide +kernel) ?_
                                have hz_75 : (0 : Int32).toInt = 0 := by decide +kernel
                                have hz_76 : (0 : Int32).toInt = 0 := by decide +kernel
                                have hz_77 : (0 : Int32).toInt = 0 := by decide +kernel
                                have hz_78 : (0 : Int32).toInt = 0 := by decide +kernel
                                have hz_79 : (0 : Int32).toInt = 0 := by decide +kernel
                                have ql_od : ¬ (od).toInt = 5 := by omega
                                refine W.widen (k := 0) (n := 0) (Nat.le_of_ble_eq_true rfl) (Nat.le_of_ble_eq_true rfl) ?_
                                exact dg_iret hx hb hr hlocks (by decide +kernel) hP hS ⟨I_60, M_60, (by decide +kernel), (m_hid.mk (fun q9 => absurd q9 (by omega))), ⟨od, (((m_60.1 gd 11 _ (rX_0 gd hk_gd) (dk_dq rfl)).trans ((m_50.1 gd 11 _ (rX_0 gd hk_gd) (dk_dq rfl)).trans ((dg_uf_F e_48 gd 11).trans ((m_41.1 gd 11 _ (rX_0 gd hk_gd) (dk_dq rfl)).trans ((m_31.1 gd 11 _ (rX_0 gd hk_gd) (dk_dq rfl)).trans ((dg_uf_F e_29 gd 11).trans ((m_22.1 gd 11 _ (rX_0 gd hk_gd) (dk_dq rfl)).trans ((m_12.1 gd 11 _ (rX_0 gd hk_gd) (dk_dq rfl)).trans ((dg_uf_F e_10 gd 11).trans ((m_5.1 gd 11 _ (rX_0 gd hk_gd) (dk_dq rfl)).trans (m_2.1 gd 11 _ (rX_0 gd hk_gd) (dk_dq rfl)))))))))))).trans f_od), (by omega)⟩, (fun q9 => absurd q9 (by omega)), ⟨y_64, f_y_64, ⟨by omega, g_ans.n (by omega) (by simp [nq_y_3, nq_y_7, qw_5_2k, nq_y_14, qw_12_1k, nq_y_26, qw_22_2k, nq_y_33, qw_31_1k, nq_y_45, qw_41_2k, nq_y_52, qw_50_1k, qw_60_2, ql_od])⟩⟩, (GOX.keep (GOX.keep GO_48 m_50 (dk_dq rfl) (dk_dq rfl)) m_60 (dk_dq rfl) (dk_dq rfl)), trivial⟩ dX6_readOrder_134
                      · have jc_46 := dk_eqc (k := 0) (by decide +kernel) c_46
                        have qw_41_2 : y_num kd vl 1 9 ((n0 : Int32).toNatClampNeg + 5) = none := by have h9 := w_41_2.2.2 (by omega); rw [show (1 : Int32).toInt = 1 from by decide +kernel, show (9 : Int32).toInt = 9 from by decide +kernel, nq_y_33] at h9; exact h9
                        refine lv_iconst (v := 0) hx hb dX6_readOrder_98 (by decide +kernel) ?_
                        have hz_80 : (0 : Int32).toInt = 0 := by decide +kernel
                        have hz_81 : (0 : Int32).toInt = 0 := by decide +kernel
                        have hz_82 : (0 : Int32).toInt = 0 := by decide +kernel
                        have hz_83 : (0 : Int32).toInt = 0 := by decide +kernel
                        have hz_84 : (0 : Int32).toInt = 0 := by decide +kernel
                        have ql_od : ¬ (od).toInt = 5 := by omega
                        refine W.widen (k := 0) (n := 0) (Nat.le_of_ble_eq_true rfl) (Nat.le_of_ble_eq_true rfl) ?_
                        exact dg_iret hx hb hr hlocks (by decide +kernel) hP hS ⟨I_41, M_41, (by decide +kernel), (m_hid.mk (fun q9 => absurd q9 (by omega))), ⟨od, (((m_41.1 gd 11 _ (rX_0 gd hk_gd) (dk_dq rfl)).trans ((m_31.1 gd 11 _ (rX_0 gd hk_gd) (dk_dq rfl)).trans ((dg_uf_F e_29 gd 11).trans ((m_22.1 gd 11 _ (rX_0 gd hk_gd) (dk_dq rfl)).trans ((m_12.1 gd 11 _ (rX_0 gd hk_gd) (dk_dq rfl)).trans ((dg_uf_F e_10 gd 11).trans ((m_5.1 gd 11 _ (rX_0 gd hk_gd) (dk_dq rfl)).trans (m_2.1 gd 11 _ (rX_0 gd hk_gd) (dk_dq rfl))))))))).trans f_od), (by omega)⟩, (fun q9 => absurd q9 (by omega)), ⟨y_45, f_y_45, ⟨by omega, g_ans.n (by omega) (by simp [nq_y_3, nq_y_7, qw_5_2k, nq_y_14, qw_12_1k, nq_y_26, qw_22_2k, nq_y_33, qw_31_1k, qw_41_2, ql_od])⟩⟩, (GOX.keep (GOX.keep GO_29 m_31 (dk_dq rfl) (dk_dq rfl)) m_41 (dk_dq rfl) (dk_dq rfl)), trivial⟩ dX6_readOrder_99
              · have jc_27 := dk_eqc (k := 0) (by decide +kernel) c_27
                have qw_22_2 : y_num kd vl 0 9 ((n0 : Int32).toNatClampNeg + 3) = none := by have h9 := w_22_2.2.2 (by omega); rw [show (0 : Int32).toInt = 0 from by decide +kernel, show (9 : Int32).toInt = 9 from by decide +kernel, nq_y_14] at h9; exact h9
                refine lv_iconst (v := 0) hx hb dX6_readOrder_64 (by decide +kernel) ?_
                have hz_85 : (0 : Int32).toInt = 0 := by decide +kernel
                have hz_86 : (0 : Int32).toInt = 0 := by decide +kernel
                have hz_87 : (0 : Int32).toInt = 0 := by decide +kernel
                have hz_88 : (0 : Int32).toInt = 0 := by decide +kernel
                have hz_89 : (0 : Int32).toInt = 0 := by decide +kernel
                have ql_od : ¬ (od).toInt = 5 := by omega
                refine W.widen (k := 0) (n := 0) (Nat.le_of_ble_eq_true rfl) (Nat.le_of_ble_eq_true rfl) ?_
                exact dg_iret hx hb hr hlocks (by decide +kernel) hP hS ⟨I_22, M_22, (by decide +kernel), (m_hid.mk (fun q9 => absurd q9 (by omega))), ⟨od, (((m_22.1 gd 11 _ (rX_0 gd hk_gd) (dk_dq rfl)).trans ((m_12.1 gd 11 _ (rX_0 gd hk_gd) (dk_dq rfl)).trans ((dg_uf_F e_10 gd 11).trans ((m_5.1 gd 11 _ (rX_0 gd hk_gd) (dk_dq rfl)).trans (m_2.1 gd 11 _ (rX_0 gd hk_gd) (dk_dq rfl)))))).trans f_od), (by omega)⟩, (fun q9 => absurd q9 (by omega)), ⟨y_26, f_y_26, ⟨by omega, g_ans.n (by omega) (by simp [nq_y_3, nq_y_7, qw_5_2k, nq_y_14, qw_12_1k, qw_22_2, ql_od])⟩⟩, (GOX.keep (GOX.keep GO_10 m_12 (dk_dq rfl) (dk_dq rfl)) m_22 (dk_dq rfl) (dk_dq rfl)), trivial⟩ dX6_readOrder_65
      · have jc_8 := dk_eqc (k := 0) (by decide +kernel) c_8
        have qw_5_2 : y_new kd vl (y_nm fm (mi : Int32).toNatClampNeg) (y_nm fo (od : Int32).toNatClampNeg) ((n0 : Int32).toNatClampNeg + 1) = none := by have h9 := w_5_2.2.2 (by omega); rw [nq_y_3] at h9; exact h9
        refine lv_iconst (v := 0) hx hb dX6_readOrder_31 (by decide +kernel) ?_
        have hz_90 : (0 : Int32).toInt = 0 := by decide +kernel
        have hz_91 : (0 : Int32).toInt = 0 := by decide +kernel
        have hz_92 : (0 : Int32).toInt = 0 := by decide +kernel
        have hz_93 : (0 : Int32).toInt = 0 := by decide +kernel
        have hz_94 : (0 : Int32).toInt = 0 := by decide +kernel
        have ql_od : ¬ (od).toInt = 5 := by omega
        refine W.widen (k := 0) (n := 0) (Nat.le_of_ble_eq_true rfl) (Nat.le_of_ble_eq_true rfl) ?_
        exact dg_iret hx hb hr hlocks (by decide +kernel) hP hS ⟨I_5, M_5, (by decide +kernel), (m_hid.mk (fun q9 => absurd q9 (by omega))), ⟨od, (((m_5.1 gd 11 _ (rX_0 gd hk_gd) (dk_dq rfl)).trans (m_2.1 gd 11 _ (rX_0 gd hk_gd) (dk_dq rfl))).trans f_od), (by omega)⟩, (fun q9 => absurd q9 (by omega)), ⟨y_7, f_y_7, ⟨by omega, g_ans.n (by omega) (by simp [nq_y_3, qw_5_2, ql_od])⟩⟩, (GOX.keep (GOX.keep GO m_2 (dk_dq rfl) (dk_dq rfl)) m_5 (dk_dq rfl) (dk_dq rfl)), trivial⟩ dX6_readOrder_32
  · have jc_1 := dk_eqc (k := 5) (by decide +kernel) c_1
    refine lv_aload_n hx hb dX6_readOrder_13 rfl (lv_at hl 1 rfl) ?_
    refine lv_bipush (v := 6) hx hb dX6_readOrder_14 (by decide +kernel) ?_
    refine dg_calli hS hA1 hA (va_runV (As := [.int 6]) (rest := []) F (c_rd_fail l g D o S 6 en n0 f_n0 (by omega) ke f_ke (by omega) (by omega) I s.heap.size) (cwV 1 hts (bw_V wB_30 wB_31 wB_32 wB_24 wB_29) rfl rfl rfl (by decide +kernel) ⟨Nat.le_of_ble_eq_true rfl, Nat.le_of_ble_eq_true rfl⟩) (dg_preV sX_209 rfl K ST hP hS hA1 hA) rfl rfl hl.1 rfl (lv_room (Nat.le_of_ble_eq_true rfl)) dX6_readOrder_16 ⟨Nat.le_of_ble_eq_true rfl, Nat.le_of_ble_eq_true rfl⟩) (fun x_95 S_96 hw_96 H locs hP hS => ?_)
    obtain ⟨I_96, m_96, w_96_0, -⟩ := hw_96
    have M_96 := dg_sm.tr M_0 m_96 (dk_dq rfl) (dk_dq rfl)
    have w_96_0 : 0 ≤ (x_95).toInt ∧ (x_95).toInt ≤ 0 := w_96_0
    have ql_od : (od).toInt = 5 := by omega
    refine W.widen (k := 0) (n := 0) (Nat.le_of_ble_eq_true rfl) (Nat.le_of_ble_eq_true rfl) ?_
    exact dg_iret hx hb hr hlocks (dk_znar2 (by omega)) hP hS ⟨I_96, M_96, (by omega), (m_hid.mk (fun q9 => absurd q9 (by omega))), ⟨od, ((m_96.1 gd 11 _ (rX_0 gd hk_gd) (dk_dq rfl)).trans f_od), (by omega)⟩, (fun q9 => absurd q9 (by omega)), ⟨n0, ((m_96.1 209 4 _ sX_209 (dk_dq rfl)).trans f_n0), ⟨by omega, g_ans.n (by omega) (by simp [ql_od])⟩⟩, (GOX.keep GO m_96 (dk_dq rfl) (dk_dq rfl)), trivial⟩ dX6_readOrder_19
set_option maxHeartbeats 8000000 in
set_option maxRecDepth 100000 in
theorem c_rd_readSeam (l : Launch) (g : Nat → ClassId) (D : va_G) (o : Nat) (S : dg_S) (en : Int32) (kd : Nat → Int32) (vl : Nat → Int32) (S0 : dg_S) (d0 : Nat) (gd : Nat) (hk_gd : rX gd) (f_gd : S.1 209 3 = .ref (o + gd)) (n0 : Int32) (f_n0 : S.1 209 4 = .int n0) (b_n0 : 0 ≤ (n0).toInt ∧ (n0).toInt ≤ 1600) (ke : Int32) (f_ke : S.2.1 211 (en : Int32).toNatClampNeg = ke) (b_ke : 0 ≤ (ke).toInt ∧ (ke).toInt ≤ 0) (hne : (n0).toInt ≤ (en).toInt ∧ (en).toInt ≤ 1600 ∧ 0 ≤ (en).toInt) (hkd : ∀ k9 : Nat, k9 ≤ (en : Int32).toNatClampNeg → S.2.1 211 k9 = kd k9) (hvl : ∀ k9 : Nat, k9 ≤ (en : Int32).toNatClampNeg → S.2.1 213 k9 = vl k9) (hkn : (kd (n0 : Int32).toNatClampNeg).toInt ≠ 0) (hd0 : d0 ≠ gd) (Z1 : Z1X S) (GO : GOX S0 d0 S) (I : CX o S) (sz : Nat) : Met l yX6_readSeam (bw yX6_readSeam cX6_readSeam 2 (some .boolean)) ({ frames := 3, cells := 0, slots := 0, locals := 76 } : Room) (dk_Pc g D (dg_w g shX o rfX S) sz [.ref (o + 209)]) (va_Qi (fun (r : Int32) S' => CX o S' ∧ dg_sm shX [(19, 0), (19, 1), (19, 2), (31, 0), (31, 1), (31, 4), (31, 5)] [] S S' ∧ (0 ≤ (r).toInt ∧ (r).toInt ≤ 1) ∧ (∃ y9 : Int32, S'.1 gd 0 = .int y9 ∧ ((r).toInt = 1 → (y9).toInt = (vl ((n0 : Int32).toNatClampNeg + 1)).toInt)) ∧ (∃ y9 : Int32, S'.1 gd 1 = .int y9 ∧ ((r).toInt = 1 → (y9).toInt = (vl ((n0 : Int32).toNatClampNeg + 3)).toInt)) ∧ (∃ y9 : Int32, S'.1 gd 2 = .int y9 ∧ ((r).toInt = 1 → (y9).toInt = 8)) ∧ (∃ y9 : Int32, S'.1 209 4 = .int y9 ∧ ((y9).toInt ≤ (en).toInt ∧ g_ans r ((y_num kd vl 3 7 ((n0 : Int32).toNatClampNeg + 1)).bind fun k2 => (y_own kd vl 1 k2).bind (y_num kd vl 3 7)) (y9 : Int32).toNatClampNeg)) ∧ Z1X S' ∧ GOX S0 d0 S' ∧ True) (dg_B g D shX o rfX) (dg_A o shX.length sz)) 0 0 (dg_A o shX.length sz) := by
  refine dg_met (cc := cX6_readSeam) (maxL := 2) (ret := (some .boolean)) (dk_dq rfl) rfl (Nat.le_of_ble_eq_true rfl) ?_
  intro p e s m args below meth c A hAe harg hx hb hr hml hts hown hlocks hin hP K hS hA1 hA ST hsz ls hl
  rw [← hAe]
  have F : CallFix p m c cX6_readSeam 2 s args (bw yX6_readSeam cX6_readSeam 2 (some .boolean)) RX6 := ⟨hx, hb, hml, hown, hts⟩
  have hl : lv_has ls 2 [(0, .ref (o + 209))] := hl
  have M_0 : dg_sm shX [(19, 0), (19, 1), (19, 2), (31, 0), (31, 1), (31, 4), (31, 5)] [] S S := dg_sm.rf
  refine lv_aload_n hx hb dX6_readSeam_0 rfl (lv_at hl 0 rfl) ?_
  refine dg_callv hS hA1 hA (va_runV (As := []) (rest := []) F (c_rd_pass l g D o S en kd vl n0 f_n0 (by omega) ke f_ke (by omega) (by omega) hkd hvl I s.heap.size) (cwV 0 hts (bw_V wB_26 wB_27 wB_28 wB_24 wB_25) rfl rfl rfl (by decide +kernel) ⟨Nat.le_of_ble_eq_true rfl, Nat.le_of_ble_eq_true rfl⟩) (dg_preV sX_209 rfl K ST hP hS hA1 hA) rfl rfl hl.1 rfl (lv_room (Nat.le_of_ble_eq_true rfl)) dX6_readSeam_1 ⟨Nat.le_of_ble_eq_true rfl, Nat.le_of_ble_eq_true rfl⟩) (fun S_1 hw_1 H locs hP hS => ?_)
  obtain ⟨I_1, m_1, w_1_0, -⟩ := hw_1
  have M_1 := dg_sm.tr M_0 m_1 (dk_dq rfl) (dk_dq rfl)
  obtain ⟨y_2, f_y_2, w_1_0⟩ := w_1_0
  have w_1_0 : (y_2).toInt ≤ (en).toInt ∧ ((kd (n0 : Int32).toNatClampNeg).toInt ≠ 0 → (y_2 : Int32).toNatClampNeg = (n0 : Int32).toNatClampNeg + 1) := w_1_0
  have b_y_2 : 0 ≤ (y_2).toInt ∧ (y_2).toInt ≤ 1600 := dg_I.intb (lo := 0) (hi := 1600) I_1 sX_209 (by decide +kernel) f_y_2
  have nq_y_2 : (y_2 : Int32).toNatClampNeg = (n0 : Int32).toNatClampNeg + 1 := by have h9 := w_1_0.2 hkn; omega
  refine lv_aload_n hx hb dX6_readSeam_4 rfl (lv_at hl 0 rfl) ?_
  refine lv_iconst (v := 3) hx hb dX6_readSeam_5 (by decide +kernel) ?_
  refine lv_bipush (v := 7) hx hb dX6_readSeam_6 (by decide +kernel) ?_
  refine dg_calli hS hA1 hA (va_runV (As := [.int 3, .int 7]) (rest := []) F (c_rd_takeNumber l g D o S_1 3 7 en kd vl y_2 f_y_2 (by omega) ke ((congrFun (m_1.2 211 _ sX_211 (dk_dq rfl)).1 _).trans f_ke) (by omega) (by omega) (fun k9 h9 => (congrFun (m_1.2 211 _ sX_211 (dk_dq rfl)).1 k9).trans (hkd k9 h9)) (fun k9 h9 => (congrFun (m_1.2 213 _ sX_213 (dk_dq rfl)).1 k9).trans (hvl k9 h9)) I_1 H.size) (cwV 2 hts (bw_V wB_49 wB_50 wB_51 wB_24 wB_48) rfl rfl rfl (by decide +kernel) ⟨Nat.le_of_ble_eq_true rfl, Nat.le_of_ble_eq_true rfl⟩) (dg_preV sX_209 rfl K ST hP hS hA1 hA) rfl rfl hl.1 rfl (lv_room (Nat.le_of_ble_eq_true rfl)) dX6_readSeam_8 ⟨Nat.le_of_ble_eq_true rfl, Nat.le_of_ble_eq_true rfl⟩) (fun x_3 S_4 hw_4 H locs hP hS => ?_)
  obtain ⟨I_4, m_4, w_4_0, w_4_1, w_4_2, -⟩ := hw_4
  have M_4 := dg_sm.tr M_1 m_4 (dk_dq rfl) (dk_dq rfl)
  have hz_5 : (3 : Int32).toInt = 3 := by decide +kernel
  have hz_6 : (7 : Int32).toInt = 7 := by decide +kernel
  have w_4_0 : 0 ≤ (x_3).toInt ∧ (x_3).toInt ≤ 1 := w_4_0
  obtain ⟨y_7, f_y_7, w_4_1⟩ := w_4_1
  have w_4_1 : (x_3).toInt = 1 → (y_7).toInt = (vl (y_2 : Int32).toNatClampNeg).toInt ∧ ((3 : Int32)).toInt ≤ (y_7).toInt ∧ (y_7).toInt ≤ ((7 : Int32)).toInt := w_4_1
  obtain ⟨y_8, f_y_8, w_4_2⟩ := w_4_2
  have w_4_2 : (y_8).toInt ≤ (en).toInt ∧ g_ans x_3 (y_num kd vl ((3 : Int32)).toInt ((7 : Int32)).toInt (y_2 : Int32).toNatClampNeg) (y_8 : Int32).toNatClampNeg := w_4_2
  have b_y_8 : 0 ≤ (y_8).toInt ∧ (y_8).toInt ≤ 1600 := dg_I.intb (lo := 0) (hi := 1600) I_4 sX_209 (by decide +kernel) f_y_8
  refine lv_if_ne (tgt := 16) hx hb dX6_readSeam_11 (dk_dq rfl) (fun c_9 => ?_) (fun c_9 => ?_)
  · as_aux_lemma =>
      have jc_9 := dk_neqc (k := 0) (by decide +kernel) c_9
      have qw_4_2 : y_num kd vl 3 7 ((n0 : Int32).toNatClampNeg + 1) = some (y_8 : Int32).toNatClampNeg := by have h9 := w_4_2.2.1 (by omega); rw [show (3 : Int32).toInt = 3 from by decide +kernel, show (7 : Int32).toInt = 7 from by decide +kernel, nq_y_2] at h9; exact h9
      have nq_y_8 : (y_8 : Int32).toNatClampNeg = (n0 : Int32).toNatClampNeg + 2 := by have h9 := (y_num_o qw_4_2).2.2.2; omega
      have qw_4_2k : y_num kd vl 3 7 ((n0 : Int32).toNatClampNeg + 1) = some ((n0 : Int32).toNatClampNeg + 2) := by rw [qw_4_2, nq_y_8]
      refine lv_aload_n hx hb dX6_readSeam_16 rfl (lv_at hl 0 rfl) ?_
      refine dg_get (C := RX6) (T := TX6) (N := 8) hx hb hts (fun w h => bw_mem (wU_X6 w h)) hown K hP sX_209 rfl 5 (dk_dq rfl) (hts _ (bw_mem wB_41)) (fun _ h9 => h9) (v := .int y_7) f_y_7 dX6_readSeam_17 ?_
      refine lv_istore_n (lv' := [(1, .int y_7), (0, .ref (o + 209))]) hx hb dX6_readSeam_20 rfl hl (dk_dq rfl) rfl (fun ls hl => ?_)
      refine lv_aload_n hx hb dX6_readSeam_21 rfl (lv_at hl 1 rfl) ?_
      refine lv_iconst (v := 1) hx hb dX6_readSeam_22 (by decide +kernel) ?_
      refine dg_calli hS hA1 hA (va_runV (As := [.int 1]) (rest := []) F (c_rd_takeOwn l g D o S_4 1 en kd vl y_8 f_y_8 (by omega) ke ((congrFun ((m_4.2 211 _ sX_211 (dk_dq rfl)).1.trans (m_1.2 211 _ sX_211 (dk_dq rfl)).1) _).trans f_ke) (by omega) (by omega) (fun k9 h9 => (congrFun ((m_4.2 211 _ sX_211 (dk_dq rfl)).1.trans (m_1.2 211 _ sX_211 (dk_dq rfl)).1) k9).trans (hkd k9 h9)) (fun k9 h9 => (congrFun ((m_4.2 213 _ sX_213 (dk_dq rfl)).1.trans (m_1.2 213 _ sX_213 (dk_dq rfl)).1) k9).trans (hvl k9 h9)) I_4 H.size) (cwV 1 hts (bw_V wB_77 wB_78 wB_79 wB_24 wB_76) rfl rfl rfl (by decide +kernel) ⟨Nat.le_of_ble_eq_true rfl, Nat.le_of_ble_eq_true rfl⟩) (dg_preV sX_209 rfl K ST hP hS hA1 hA) rfl rfl hl.1 rfl (lv_room (Nat.le_of_ble_eq_true rfl)) dX6_readSeam_23 ⟨Nat.le_of_ble_eq_true rfl, Nat.le_of_ble_eq_true rfl⟩) (fun x_10 S_11 hw_11 H locs hP hS => ?_)
      obtain ⟨I_11, m_11, w_11_0, w_11_1, -⟩ := hw_11
      have M_11 := dg_sm.tr M_4 m_11 (dk_dq rfl) (dk_dq rfl)
      have hz_12 : (1 : Int32).toInt = 1 := by decide +kernel
      have w_11_0 : 0 ≤ (x_10).toInt ∧ (x_10).toInt ≤ 1 := w_11_0
      obtain ⟨y_13, f_y_13, w_11_1⟩ := w_11_1
      have w_11_1 : (y_13).toInt ≤ (en).toInt ∧ g_ans x_10 (y_own kd vl ((1 : Int32)).toInt (y_8 : Int32).toNatClampNeg) (y_13 : Int32).toNatClampNeg := w_11_1
      have b_y_13 : 0 ≤ (y_13).toInt ∧ (y_13).toInt ≤ 1600 := dg_I.intb (lo := 0) (hi := 1600) I_11 sX_209 (by decide +kernel) f_y_13
      refine lv_if_eq (tgt := 39) hx hb dX6_readSeam_26 (dk_dq rfl) (fun c_14 => ?_) (fun c_14 => ?_)
      · have jc_14 := dk_eqc (k := 0) (by decide +kernel) c_14
        have qw_11_1 : y_own kd vl 1 ((n0 : Int32).toNatClampNeg + 2) = none := by have h9 := w_11_1.2.2 (by omega); rw [show (1 : Int32).toInt = 1 from by decide +kernel, nq_y_8] at h9; exact h9
        refine lv_iconst (v := 0) hx hb dX6_readSeam_39 (by decide +kernel) ?_
        have hz_15 : (0 : Int32).toInt = 0 := by decide +kernel
        have hz_16 : (0 : Int32).toInt = 0 := by decide +kernel
        obtain ⟨x_17, f_x_17, b_x_17⟩ := dg_I.int (i := gd) (k := 0) (lo := 0) (hi := 7) I_11 (rX_0 gd hk_gd) (by decide +kernel)
        have hz_18 : (0 : Int32).toInt = 0 := by decide +kernel
        obtain ⟨x_19, f_x_19, b_x_19⟩ := dg_I.int (i := gd) (k := 1) (lo := 0) (hi := 7) I_11 (rX_0 gd hk_gd) (by decide +kernel)
        have hz_20 : (0 : Int32).toInt = 0 := by decide +kernel
        obtain ⟨x_21, f_x_21, b_x_21⟩ := dg_I.int (i := gd) (k := 2) (lo := (-1)) (hi := 63) I_11 (rX_0 gd hk_gd) (by decide +kernel)
        have hz_22 : (0 : Int32).toInt = 0 := by decide +kernel
        refine W.widen (k := 0) (n := 0) (Nat.le_of_ble_eq_true rfl) (Nat.le_of_ble_eq_true rfl) ?_
        exact dg_iret hx hb hr hlocks (by decide +kernel) hP hS ⟨I_11, M_11, (by decide +kernel), ⟨x_17, f_x_17, (fun q9 => absurd q9 (by omega))⟩, ⟨x_19, f_x_19, (fun q9 => absurd q9 (by omega))⟩, ⟨x_21, f_x_21, (fun q9 => absurd q9 (by omega))⟩, ⟨y_13, f_y_13, ⟨by omega, g_ans.n (by omega) (by simp [nq_y_2, nq_y_8, qw_4_2k, qw_11_1])⟩⟩, (Z1X.keep (Z1X.keep (Z1X.keep Z1 m_1 (dk_dq rfl) (dk_dq rfl) (dk_dq rfl)) m_4 (dk_dq rfl) (dk_dq rfl) (dk_dq rfl)) m_11 (dk_dq rfl) (dk_dq rfl) (dk_dq rfl)), (GOX.keep (GOX.keep (GOX.keep GO m_1 (dk_dq rfl) (dk_dq rfl)) m_4 (dk_dq rfl) (dk_dq rfl)) m_11 (dk_dq rfl) (dk_dq rfl)), trivial⟩ dX6_readSeam_40
      · as_aux_lemma =>
          have jc_14 := dk_neqc (k := 0) (by decide +kernel) c_14
          have qw_11_1 : y_own kd vl 1 ((n0 : Int32).toNatClampNeg + 2) = some (y_13 : Int32).toNatClampNeg := by have h9 := w_11_1.2.1 (by omega); rw [show (1 : Int32).toInt = 1 from by decide +kernel, nq_y_8] at h9; exact h9
          have nq_y_13 : (y_13 : Int32).toNatClampNeg = (n0 : Int32).toNatClampNeg + 3 := by have h9 := (y_own_o qw_11_1).2; omega
          have qw_11_1k : y_own kd vl 1 ((n0 : Int32).toNatClampNeg + 2) = some ((n0 : Int32).toNatClampNeg + 3) := by rw [qw_11_1, nq_y_13]
          refine lv_aload_n hx hb dX6_readSeam_29 rfl (lv_at hl 1 rfl) ?_
          refine lv_iconst (v := 3) hx hb dX6_readSeam_30 (by decide +kernel) ?_
          refine lv_bipush (v := 7) hx hb dX6_readSeam_31 (by decide +kernel) ?_
          refine dg_calli hS hA1 hA (va_runV (As := [.int 3, .int 7]) (rest := []) F (c_rd_takeNumber l g D o S_11 3 7 en kd vl y_13 f_y_13 (by omega) ke ((congrFun ((m_11.2 211 _ sX_211 (dk_dq rfl)).1.trans ((m_4.2 211 _ sX_211 (dk_dq rfl)).1.trans (m_1.2 211 _ sX_211 (dk_dq rfl)).1)) _).trans f_ke) (by omega) (by omega) (fun k9 h9 => (congrFun ((m_11.2 211 _ sX_211 (dk_dq rfl)).1.trans ((m_4.2 211 _ sX_211 (dk_dq rfl)).1.trans (m_1.2 211 _ sX_211 (dk_dq rfl)).1)) k9).trans (hkd k9 h9)) (fun k9 h9 => (congrFun ((m_11.2 213 _ sX_213 (dk_dq rfl)).1.trans ((m_4.2 213 _ sX_213 (dk_dq rfl)).1.trans (m_1.2 213 _ sX_213 (dk_dq rfl)).1)) k9).trans (hvl k9 h9)) I_11 H.size) (cwV 2 hts (bw_V wB_49 wB_50 wB_51 wB_24 wB_48) rfl rfl rfl (by decide +kernel) ⟨Nat.le_of_ble_eq_true rfl, Nat.le_of_ble_eq_true rfl⟩) (dg_preV sX_209 rfl K ST hP hS hA1 hA) rfl rfl hl.1 rfl (lv_room (Nat.le_of_ble_eq_true rfl)) dX6_readSeam_33 ⟨Nat.le_of_ble_eq_true rfl, Nat.le_of_ble_eq_true rfl⟩) (fun x_23 S_24 hw_24 H locs hP hS => ?_)
          obtain ⟨I_24, m_24, w_24_0, w_24_1, w_24_2, -⟩ := hw_24
          have M_24 := dg_sm.tr M_11 m_24 (dk_dq rfl) (dk_dq rfl)
          have hz_25 : (3 : Int32).toInt = 3 := by decide +kernel
          have hz_26 : (7 : Int32).toInt = 7 := by decide +kernel
          have w_24_0 : 0 ≤ (x_23).toInt ∧ (x_23).toInt ≤ 1 := w_24_0
          obtain ⟨y_27, f_y_27, w_24_1⟩ := w_24_1
          have w_24_1 : (x_23).toInt = 1 → (y_27).toInt = (vl (y_13 : Int32).toNatClampNeg).toInt ∧ ((3 : Int32)).toInt ≤ (y_27).toInt ∧ (y_27).toInt ≤ ((7 : Int32)).toInt := w_24_1
          obtain ⟨y_28, f_y_28, w_24_2⟩ := w_24_2
          have w_24_2 : (y_28).toInt ≤ (en).toInt ∧ g_ans x_23 (y_num kd vl ((3 : Int32)).toInt ((7 : Int32)).toInt (y_13 : Int32).toNatClampNeg) (y_28 : Int32).toNatClampNeg := w_24_2
          have b_y_28 : 0 ≤ (y_28).toInt ∧ (y_28).toInt ≤ 1600 := dg_I.intb (lo := 0) (hi := 1600) I_24 sX_209 (by decide +kernel) f_y_28
          refine lv_if_ne (tgt := 41) hx hb dX6_readSeam_36 (dk_dq rfl) (fun c_29 => ?_) (fun c_29 => ?_)
          · as_aux_lemma =>
              have jc_29 := dk_neqc (k := 0) (by decide +kernel) c_29
              have qw_24_2 : y_num kd vl 3 7 ((n0 : Int32).toNatClampNeg + 3) = some (y_28 : Int32).toNatClampNeg := by have h9 := w_24_2.2.1 (by omega); rw [show (3 : Int32).toInt = 3 from by decide +kernel, show (7 : Int32).toInt = 7 from by decide +kernel, nq_y_13] at h9; exact h9
              have nq_y_28 : (y_28 : Int32).toNatClampNeg = (n0 : Int32).toNatClampNeg + 4 := by have h9 := (y_num_o qw_24_2).2.2.2; omega
              have qw_24_2k : y_num kd vl 3 7 ((n0 : Int32).toNatClampNeg + 3) = some ((n0 : Int32).toNatClampNeg + 4) := by rw [qw_24_2, nq_y_28]
              refine lv_aload_n hx hb dX6_readSeam_41 rfl (lv_at hl 1 rfl) ?_
              refine dg_get (C := RX6) (T := TX6) (N := 8) hx hb hts (fun w h => bw_mem (wU_X6 w h)) hown K hP sX_209 rfl 3 (dk_dq rfl) (hts _ (bw_mem wB_38)) (fun _ h9 => h9) (v := .ref (o + gd)) (((m_24.1 209 3 _ sX_209 (dk_dq rfl)).trans ((m_11.1 209 3 _ sX_209 (dk_dq rfl)).trans ((m_4.1 209 3 _ sX_209 (dk_dq rfl)).trans (m_1.1 209 3 _ sX_209 (dk_dq rfl))))).trans f_gd) dX6_readSeam_42 ?_
              refine lv_iload_n hx hb dX6_readSeam_45 rfl (lv_at hl 0 rfl) ?_
              refine dg_put (ci := 2) (v := .int y_7) (ty := tyX2 0) (C := RX2) (T := TX2) (N := 19) hx hb hts (fun w h => bw_mem (wU_X2 w h)) tyX2 tyX2_ok nmX2 hown K hP hS hA1 (rX_0 gd hk_gd) rfl 0 (dk_dq rfl) (hts _ (bw_mem wB_47)) (fun _ h9 => h9) rfl (by decide +kernel) rfl rfl dX6_readSeam_46 (fun S_30 e_30 H locs hP hS => ?_)
              have I_30 := dg_I.uFi (lo := 0) (hi := 7) I_24 e_30 (rX_0 gd hk_gd) (by decide +kernel) (show 0 ≤ (y_7).toInt ∧ (y_7).toInt ≤ 7 from (by omega))
              have M_30 := dg_sm.uF M_24 e_30 (rX_0 gd hk_gd) (dk_dq rfl)
              have GO_30 := GOX.uF (GOX.keep (GOX.keep (GOX.keep (GOX.keep GO m_1 (dk_dq rfl) (dk_dq rfl)) m_4 (dk_dq rfl) (dk_dq rfl)) m_11 (dk_dq rfl) (dk_dq rfl)) m_24 (dk_dq rfl) (dk_dq rfl)) hd0 e_30
              refine lv_aload_n hx hb dX6_readSeam_49 rfl (lv_at hl 1 rfl) ?_
              refine dg_get (C := RX6) (T := TX6) (N := 8) hx hb hts (fun w h => bw_mem (wU_X6 w h)) hown K hP sX_209 rfl 3 (dk_dq rfl) (hts _ (bw_mem wB_38)) (fun _ h9 => h9) (v := .ref (o + gd)) (((dg_uF_ne e_30 (fun z => absurd z.2 (dk_dq rfl))).trans ((m_24.1 209 3 _ sX_209 (dk_dq rfl)).trans ((m_11.1 209 3 _ sX_209 (dk_dq rfl)).trans ((m_4.1 209 3 _ sX_209 (dk_dq rfl)).trans (m_1.1 209 3 _ sX_209 (dk_dq rfl)))))).trans f_gd) dX6_readSeam_50 ?_
              refine lv_aload_n hx hb dX6_readSeam_53 rfl (lv_at hl 1 rfl) ?_
              refine dg_get (C := RX6) (T := TX6) (N := 8) hx hb hts (fun w h => bw_mem (wU_X6 w h)) hown K hP sX_209 rfl 5 (dk_dq rfl) (hts _ (bw_mem wB_41)) (fun _ h9 => h9) (v := .int y_27) ((dg_uF_ne e_30 (fun z => absurd z.2 (dk_dq rfl))).trans f_y_27) dX6_readSeam_54 ?_
              refine dg_put (ci := 2) (v := .int y_27) (ty := tyX2 1) (C := RX2) (T := TX2) (N := 19) hx hb hts (fun w h => bw_mem (wU_X2 w h)) tyX2 tyX2_ok nmX2 hown K hP hS hA1 (rX_0 gd hk_gd) rfl 1 (dk_dq rfl) (hts _ (bw_mem wB_52)) (fun _ h9 => h9) rfl (by decide +kernel) rfl rfl dX6_readSeam_57 (fun S_31 e_31 H locs hP hS => ?_)
              have I_31 := dg_I.uFi (lo := 0) (hi := 7) I_30 e_31 (rX_0 gd hk_gd) (by decide +kernel) (show 0 ≤ (y_27).toInt ∧ (y_27).toInt ≤ 7 from (by omega))
              have M_31 := dg_sm.uF M_30 e_31 (rX_0 gd hk_gd) (dk_dq rfl)
              have GO_31 := GOX.uF GO_30 hd0 e_31
              refine lv_aload_n hx hb dX6_readSeam_60 rfl (lv_at hl 1 rfl) ?_
              refine dg_get (C := RX6) (T := TX6) (N := 8) hx hb hts (fun w h => bw_mem (wU_X6 w h)) hown K hP sX_209 rfl 3 (dk_dq rfl) (hts _ (bw_mem wB_38)) (fun _ h9 => h9) (v := .ref (o + gd)) (((dg_uF_ne e_31 (fun z => absurd z.2 (dk_dq rfl))).trans ((dg_uF_ne e_30 (fun z => absurd z.2 (dk_dq rfl))).trans ((m_24.1 209 3 _ sX_209 (dk_dq rfl)).trans ((m_11.1 209 3 _ sX_209 (dk_dq rfl)).trans ((m_4.1 209 3 _ sX_209 (dk_dq rfl)).trans (m_1.1 209 3 _ sX_209 (dk_dq rfl))))))).trans f_gd) dX6_readSeam_61 ?_
              refine lv_aload_n hx hb dX6_readSeam_64 rfl (lv_at hl 1 rfl) ?_
              refine dg_get (C := RX6) (T := TX6) (N := 8) hx hb hts (fun w h => bw_mem (wU_X6 w h)) hown K hP sX_209 rfl 3 (dk_dq rfl) (hts _ (bw_mem wB_38)) (fun _ h9 => h9) (v := .ref (o + gd)) (((dg_uF_ne e_31 (fun z => absurd z.2 (dk_dq rfl))).trans ((dg_uF_ne e_30 (fun z => absurd z.2 (dk_dq rfl))).trans ((m_24.1 209 3 _ sX_209 (dk_dq rfl)).trans ((m_11.1 209 3 _ sX_209 (dk_dq rfl)).trans ((m_4.1 209 3 _ sX_209 (dk_dq rfl)).trans (m_1.1 209 3 _ sX_209 (dk_dq rfl))))))).trans f_gd) dX6_readSeam_65 ?_
              refine lv_iconst (v := 0) hx hb dX6_readSeam_68 (by decide +kernel) ?_
              refine lv_iconst (v := 0) hx hb dX6_readSeam_69 (by decide +kernel) ?_
              refine dg_calli hS hA1 hA (va_runV (As := [.int 0, .int 0]) (rest := [.ref (o + gd)]) F (c_g_placeOfF l g D o S_31 gd hk_gd 0 0 y_7 ((dg_uF_ne e_31 (fun z => absurd z.2 (dk_dq rfl))).trans (dg_uF_at e_30)) (by omega) y_27 (dg_uF_at e_31) (by omega) I_31 H.size) (cwV 2 hts (bw_V wB_54 wB_55 wB_56 wB_9 wB_53) rfl rfl rfl (by decide +kernel) ⟨Nat.le_of_ble_eq_true rfl, Nat.le_of_ble_eq_true rfl⟩) (dg_preV (rX_0 gd hk_gd) rfl K ST hP hS hA1 hA) rfl rfl hl.1 rfl (lv_room (Nat.le_of_ble_eq_true rfl)) dX6_readSeam_70 ⟨Nat.le_of_ble_eq_true rfl, Nat.le_of_ble_eq_true rfl⟩) (fun x_32 S_33 hw_33 H locs hP hS => ?_)
              rw [hw_33.1] at hP
              obtain ⟨hq_33, w_33_0, w_33_1, w_33_2, -⟩ := hw_33
              have hz_34 : (0 : Int32).toInt = 0 := by decide +kernel
              have hz_35 : (0 : Int32).toInt = 0 := by decide +kernel
              have w_33_0 : ((-1) ≤ (x_32).toInt ∧ (x_32).toInt ≤ 62) ∧ ((x_32).toInt ≤ (-1) ∨ 8 ≤ (x_32).toInt) := w_33_0
              have w_33_1 : (x_32).toInt ≠ -1 ↔ (0 ≤ ((0 : Int32)).toInt ∧ ((0 : Int32)).toInt < (y_7).toInt ∧ 0 ≤ ((0 : Int32)).toInt ∧ ((0 : Int32)).toInt < (y_27).toInt) := w_33_1
              have w_33_2 : (x_32).toInt ≠ -1 → (x_32).toInt = 8 * ((0 : Int32)).toInt + ((0 : Int32)).toInt + 8 := w_33_2
              refine dg_put (ci := 2) (v := .int x_32) (ty := tyX2 2) (C := RX2) (T := TX2) (N := 19) hx hb hts (fun w h => bw_mem (wU_X2 w h)) tyX2 tyX2_ok nmX2 hown K hP hS hA1 (rX_0 gd hk_gd) rfl 2 (dk_dq rfl) (hts _ (bw_mem wB_57)) (fun _ h9 => h9) rfl (by decide +kernel) rfl rfl dX6_readSeam_73 (fun S_36 e_36 H locs hP hS => ?_)
              have I_36 := dg_I.uFi (lo := (-1)) (hi := 63) I_31 e_36 (rX_0 gd hk_gd) (by decide +kernel) (show (-1) ≤ (x_32).toInt ∧ (x_32).toInt ≤ 63 from (by omega))
              have M_36 := dg_sm.uF M_31 e_36 (rX_0 gd hk_gd) (dk_dq rfl)
              have GO_36 := GOX.uF GO_31 hd0 e_36
              have Z1_36 := Z1X.seam (Z1X.keep (Z1X.keep (Z1X.keep (Z1X.keep Z1 m_1 (dk_dq rfl) (dk_dq rfl) (dk_dq rfl)) m_4 (dk_dq rfl) (dk_dq rfl) (dk_dq rfl)) m_11 (dk_dq rfl) (dk_dq rfl) (dk_dq rfl)) m_24 (dk_dq rfl) (dk_dq rfl) (dk_dq rfl)) e_30 e_31 e_36 (by omega) (by omega)
              refine lv_iconst (v := 1) hx hb dX6_readSeam_76 (by decide +kernel) ?_
              have hz_37 : (1 : Int32).toInt = 1 := by decide +kernel
              have hz_38 : (1 : Int32).toInt = 1 := by decide +kernel
              have hz_39 : (1 : Int32).toInt = 1 := by decide +kernel
              have hz_40 : (1 : Int32).toInt = 1 := by decide +kernel
              have hz_41 : (1 : Int32).toInt = 1 := by decide +kernel
              refine W.widen (k := 0) (n := 0) (Nat.le_of_ble_eq_true rfl) (Nat.le_of_ble_eq_true rfl) ?_
              exact dg_iret hx hb hr hlocks (by decide +kernel) hP hS ⟨I_36, M_36, (by decide +kernel), ⟨y_7, (((dg_uF_ne e_36 (fun z => absurd z.2 (dk_dq rfl))).trans (dg_uF_ne e_31 (fun z => absurd z.2 (dk_dq rfl)))).trans (dg_uF_at e_30)), (fun _ => by have h9 := (w_4_1 (by omega)).1; rw [nq_y_2] at h9; omega)⟩, ⟨y_27, ((dg_uF_ne e_36 (fun z => absurd z.2 (dk_dq rfl))).trans (dg_uF_at e_31)), (fun _ => by have h9 := (w_24_1 (by omega)).1; rw [nq_y_13] at h9; omega)⟩, ⟨x_32, (dg_uF_at e_36), (fun q9 => by omega)⟩, ⟨y_28, (((dg_uF_ne e_36 (fun z => absurd z.2 (dk_dq rfl))).trans ((dg_uF_ne e_31 (fun z => absurd z.2 (dk_dq rfl))).trans (dg_uF_ne e_30 (fun z => absurd z.2 (dk_dq rfl))))).trans f_y_28), ⟨by omega, g_ans.y (by omega) (by simp [nq_y_2, nq_y_8, qw_4_2k, nq_y_13, qw_11_1k, nq_y_28, qw_24_2k])⟩⟩, Z1_36, GO_36, trivial⟩ dX6_readSeam_77
          · have jc_29 := dk_eqc (k := 0) (by decide +kernel) c_29
            have qw_24_2 : y_num kd vl 3 7 ((n0 : Int32).toNatClampNeg + 3) = none := by have h9 := w_24_2.2.2 (by omega); rw [show (3 : Int32).toInt = 3 from by decide +kernel, show (7 : Int32).toInt = 7 from by decide +kernel, nq_y_13] at h9; exact h9
            refine lv_iconst (v := 0) hx hb dX6_readSeam_39 (by decide +kernel) ?_
            have hz_42 : (0 : Int32).toInt = 0 := by decide +kernel
            have hz_43 : (0 : Int32).toInt = 0 := by decide +kernel
            obtain ⟨x_44, f_x_44, b_x_44⟩ := dg_I.int (i := gd) (k := 0) (lo := 0) (hi := 7) I_24 (rX_0 gd hk_gd) (by decide +kernel)
            have hz_45 : (0 : Int32).toInt = 0 := by decide +kernel
            obtain ⟨x_46, f_x_46, b_x_46⟩ := dg_I.int (i := gd) (k := 1) (lo := 0) (hi := 7) I_24 (rX_0 gd hk_gd) (by decide +kernel)
            have hz_47 : (0 : Int32).toInt = 0 := by decide +kernel
            obtain ⟨x_48, f_x_48, b_x_48⟩ := dg_I.int (i := gd) (k := 2) (lo := (-1)) (hi := 63) I_24 (rX_0 gd hk_gd) (by decide +kernel)
            have hz_49 : (0 : Int32).toInt = 0 := by decide +kernel
            refine W.widen (k := 0) (n := 0) (Nat.le_of_ble_eq_true rfl) (Nat.le_of_ble_eq_true rfl) ?_
            exact dg_iret hx hb hr hlocks (by decide +kernel) hP hS ⟨I_24, M_24, (by decide +kernel), ⟨x_44, f_x_44, (fun q9 => absurd q9 (by omega))⟩, ⟨x_46, f_x_46, (fun q9 => absurd q9 (by omega))⟩, ⟨x_48, f_x_48, (fun q9 => absurd q9 (by omega))⟩, ⟨y_28, f_y_28, ⟨by omega, g_ans.n (by omega) (by simp [nq_y_2, nq_y_8, qw_4_2k, nq_y_13, qw_11_1k, qw_24_2])⟩⟩, (Z1X.keep (Z1X.keep (Z1X.keep (Z1X.keep Z1 m_1 (dk_dq rfl) (dk_dq rfl) (dk_dq rfl)) m_4 (dk_dq rfl) (dk_dq rfl) (dk_dq rfl)) m_11 (dk_dq rfl) (dk_dq rfl) (dk_dq rfl)) m_24 (dk_dq rfl) (dk_dq rfl) (dk_dq rfl)), (GOX.keep (GOX.keep (GOX.keep (GOX.keep GO m_1 (dk_dq rfl) (dk_dq rfl)) m_4 (dk_dq rfl) (dk_dq rfl)) m_11 (dk_dq rfl) (dk_dq rfl)) m_24 (dk_dq rfl) (dk_dq rfl)), trivial⟩ dX6_readSeam_40
  · have jc_9 := dk_eqc (k := 0) (by decide +kernel) c_9
    have qw_4_2 : y_num kd vl 3 7 ((n0 : Int32).toNatClampNeg + 1) = none := by have h9 := w_4_2.2.2 (by omega); rw [show (3 : Int32).toInt = 3 from by decide +kernel, show (7 : Int32).toInt = 7 from by decide +kernel, nq_y_2] at h9; exact h9
    refine lv_iconst (v := 0) hx hb dX6_readSeam_14 (by decide +kernel) ?_
    have hz_50 : (0 : Int32).toInt = 0 := by decide +kernel
    have hz_51 : (0 : Int32).toInt = 0 := by decide +kernel
    obtain ⟨x_52, f_x_52, b_x_52⟩ := dg_I.int (i := gd) (k := 0) (lo := 0) (hi := 7) I_4 (rX_0 gd hk_gd) (by decide +kernel)
    have hz_53 : (0 : Int32).toInt = 0 := by decide +kernel
    obtain ⟨x_54, f_x_54, b_x_54⟩ := dg_I.int (i := gd) (k := 1) (lo := 0) (hi := 7) I_4 (rX_0 gd hk_gd) (by decide +kernel)
    have hz_55 : (0 : Int32).toInt = 0 := by decide +kernel
    obtain ⟨x_56, f_x_56, b_x_56⟩ := dg_I.int (i := gd) (k := 2) (lo := (-1)) (hi := 63) I_4 (rX_0 gd hk_gd) (by decide +kernel)
    have hz_57 : (0 : Int32).toInt = 0 := by decide +kernel
    refine W.widen (k := 0) (n := 0) (Nat.le_of_ble_eq_true rfl) (Nat.le_of_ble_eq_true rfl) ?_
    exact dg_iret hx hb hr hlocks (by decide +kernel) hP hS ⟨I_4, M_4, (by decide +kernel), ⟨x_52, f_x_52, (fun q9 => absurd q9 (by omega))⟩, ⟨x_54, f_x_54, (fun q9 => absurd q9 (by omega))⟩, ⟨x_56, f_x_56, (fun q9 => absurd q9 (by omega))⟩, ⟨y_8, f_y_8, ⟨by omega, g_ans.n (by omega) (by simp [nq_y_2, qw_4_2])⟩⟩, (Z1X.keep (Z1X.keep Z1 m_1 (dk_dq rfl) (dk_dq rfl) (dk_dq rfl)) m_4 (dk_dq rfl) (dk_dq rfl) (dk_dq rfl)), (GOX.keep (GOX.keep GO m_1 (dk_dq rfl) (dk_dq rfl)) m_4 (dk_dq rfl) (dk_dq rfl)), trivial⟩ dX6_readSeam_15
