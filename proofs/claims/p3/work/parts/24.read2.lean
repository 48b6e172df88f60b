/-! 24.read2.lean.txt -/
theorem dX6_readSeam_0 : decode cX6_readSeam 0 = .ok (.aload_n 0, 1) := by decide +kernel
theorem dX6_readSeam_1 : decode cX6_readSeam 1 = .ok (.invokevirtual 92, 3) := by decide +kernel
theorem dX6_readSeam_4 : decode cX6_readSeam 4 = .ok (.aload_n 0, 1) := by decide +kernel
theorem dX6_readSeam_5 : decode cX6_readSeam 5 = .ok (.iconst 3, 1) := by decide +kernel
theorem dX6_readSeam_6 : decode cX6_readSeam 6 = .ok (.bipush 7, 2) := by decide +kernel
theorem dX6_readSeam_8 : decode cX6_readSeam 8 = .ok (.invokevirtual 95, 3) := by decide +kernel
theorem dX6_readSeam_11 : decode cX6_readSeam 11 = .ok (.ifCond .ne 5, 3) := by decide +kernel
theorem dX6_readSeam_14 : decode cX6_readSeam 14 = .ok (.iconst 0, 1) := by decide +kernel
theorem dX6_readSeam_15 : decode cX6_readSeam 15 = .ok (.ireturn, 1) := by decide +kernel
theorem dX6_readSeam_16 : decode cX6_readSeam 16 = .ok (.aload_n 0, 1) := by decide +kernel
theorem dX6_readSeam_17 : decode cX6_readSeam 17 = .ok (.getfield 99, 3) := by decide +kernel
theorem dX6_readSeam_20 : decode cX6_readSeam 20 = .ok (.istore_n 1, 1) := by decide +kernel
theorem dX6_readSeam_21 : decode cX6_readSeam 21 = .ok (.aload_n 0, 1) := by decide +kernel
theorem dX6_readSeam_22 : decode cX6_readSeam 22 = .ok (.iconst 1, 1) := by decide +kernel
theorem dX6_readSeam_23 : decode cX6_readSeam 23 = .ok (.invokevirtual 102, 3) := by decide +kernel
theorem dX6_readSeam_26 : decode cX6_readSeam 26 = .ok (.ifCond .eq 13, 3) := by decide +kernel
theorem dX6_readSeam_29 : decode cX6_readSeam 29 = .ok (.aload_n 0, 1) := by decide +kernel
theorem dX6_readSeam_30 : decode cX6_readSeam 30 = .ok (.iconst 3, 1) := by decide +kernel
theorem dX6_readSeam_31 : decode cX6_readSeam 31 = .ok (.bipush 7, 2) := by decide +kernel
theorem dX6_readSeam_33 : decode cX6_readSeam 33 = .ok (.invokevirtual 95, 3) := by decide +kernel
theorem dX6_readSeam_36 : decode cX6_readSeam 36 = .ok (.ifCond .ne 5, 3) := by decide +kernel
theorem dX6_readSeam_39 : decode cX6_readSeam 39 = .ok (.iconst 0, 1) := by decide +kernel
theorem dX6_readSeam_40 : decode cX6_readSeam 40 = .ok (.ireturn, 1) := by decide +kernel
theorem dX6_readSeam_41 : decode cX6_readSeam 41 = .ok (.aload_n 0, 1) := by decide +kernel
theorem dX6_readSeam_42 : decode cX6_readSeam 42 = .ok (.getfield 22, 3) := by decide +kernel
theorem dX6_readSeam_45 : decode cX6_readSeam 45 = .ok (.iload_n 1, 1) := by decide +kernel
theorem dX6_readSeam_46 : decode cX6_readSeam 46 = .ok (.putfield 105, 3) := by decide +kernel
theorem dX6_readSeam_49 : decode cX6_readSeam 49 = .ok (.aload_n 0, 1) := by decide +kernel
theorem dX6_readSeam_50 : decode cX6_readSeam 50 = .ok (.getfield 22, 3) := by decide +kernel
theorem dX6_readSeam_53 : decode cX6_readSeam 53 = .ok (.aload_n 0, 1) := by decide +kernel
theorem dX6_readSeam_54 : decode cX6_readSeam 54 = .ok (.getfield 99, 3) := by decide +kernel
theorem dX6_readSeam_57 : decode cX6_readSeam 57 = .ok (.putfield 108, 3) := by decide +kernel
theorem dX6_readSeam_60 : decode cX6_readSeam 60 = .ok (.aload_n 0, 1) := by decide +kernel
theorem dX6_readSeam_61 : decode cX6_readSeam 61 = .ok (.getfield 22, 3) := by decide +kernel
theorem dX6_readSeam_64 : decode cX6_readSeam 64 = .ok (.aload_n 0, 1) := by decide +kernel
theorem dX6_readSeam_65 : decode cX6_readSeam 65 = .ok (.getfield 22, 3) := by decide +kernel
theorem dX6_readSeam_68 : decode cX6_readSeam 68 = .ok (.iconst 0, 1) := by decide +kernel
theorem dX6_readSeam_69 : decode cX6_readSeam 69 = .ok (.iconst 0, 1) := by decide +kernel
theorem dX6_readSeam_70 : decode cX6_readSeam 70 = .ok (.invokevirtual 111, 3) := by decide +kernel
theorem dX6_readSeam_73 : decode cX6_readSeam 73 = .ok (.putfield 115, 3) := by decide +kernel
theorem dX6_readSeam_76 : decode cX6_readSeam 76 = .ok (.iconst 1, 1) := by decide +kernel
theorem dX6_readSeam_77 : decode cX6_readSeam 77 = .ok (.ireturn, 1) := by decide +kernel
theorem dX6_readShaft_0 : decode cX6_readShaft 0 = .ok (.aload_n 0, 1) := by decide +kernel
theorem dX6_readShaft_1 : decode cX6_readShaft 1 = .ok (.invokevirtual 92, 3) := by decide +kernel
theorem dX6_readShaft_4 : decode cX6_readShaft 4 = .ok (.aload_n 0, 1) := by decide +kernel
theorem dX6_readShaft_5 : decode cX6_readShaft 5 = .ok (.iconst 0, 1) := by decide +kernel
theorem dX6_readShaft_6 : decode cX6_readShaft 6 = .ok (.aload_n 0, 1) := by decide +kernel
theorem dX6_readShaft_7 : decode cX6_readShaft 7 = .ok (.getfield 22, 3) := by decide +kernel
theorem dX6_readShaft_10 : decode cX6_readShaft 10 = .ok (.getfield 105, 3) := by decide +kernel
theorem dX6_readShaft_13 : decode cX6_readShaft 13 = .ok (.iconst 1, 1) := by decide +kernel
theorem dX6_readShaft_14 : decode cX6_readShaft 14 = .ok (.isub, 1) := by decide +kernel
theorem dX6_readShaft_15 : decode cX6_readShaft 15 = .ok (.invokevirtual 95, 3) := by decide +kernel
theorem dX6_readShaft_18 : decode cX6_readShaft 18 = .ok (.ifCond .ne 5, 3) := by decide +kernel
theorem dX6_readShaft_21 : decode cX6_readShaft 21 = .ok (.iconst 0, 1) := by decide +kernel
theorem dX6_readShaft_22 : decode cX6_readShaft 22 = .ok (.ireturn, 1) := by decide +kernel
theorem dX6_readShaft_23 : decode cX6_readShaft 23 = .ok (.aload_n 0, 1) := by decide +kernel
theorem dX6_readShaft_24 : decode cX6_readShaft 24 = .ok (.getfield 22, 3) := by decide +kernel
theorem dX6_readShaft_27 : decode cX6_readShaft 27 = .ok (.aload_n 0, 1) := by decide +kernel
theorem dX6_readShaft_28 : decode cX6_readShaft 28 = .ok (.getfield 22, 3) := by decide +kernel
theorem dX6_readShaft_31 : decode cX6_readShaft 31 = .ok (.aload_n 0, 1) := by decide +kernel
theorem dX6_readShaft_32 : decode cX6_readShaft 32 = .ok (.getfield 99, 3) := by decide +kernel
theorem dX6_readShaft_35 : decode cX6_readShaft 35 = .ok (.iconst 0, 1) := by decide +kernel
theorem dX6_readShaft_36 : decode cX6_readShaft 36 = .ok (.invokevirtual 111, 3) := by decide +kernel
theorem dX6_readShaft_39 : decode cX6_readShaft 39 = .ok (.putfield 115, 3) := by decide +kernel
theorem dX6_readShaft_42 : decode cX6_readShaft 42 = .ok (.iconst 1, 1) := by decide +kernel
theorem dX6_readShaft_43 : decode cX6_readShaft 43 = .ok (.ireturn, 1) := by decide +kernel
theorem dX6_readReach_0 : decode cX6_readReach 0 = .ok (.aload_n 0, 1) := by decide +kernel
theorem dX6_readReach_1 : decode cX6_readReach 1 = .ok (.invokevirtual 92, 3) := by decide +kernel
theorem dX6_readReach_4 : decode cX6_readReach 4 = .ok (.aload_n 0, 1) := by decide +kernel
theorem dX6_readReach_5 : decode cX6_readReach 5 = .ok (.iconst 0, 1) := by decide +kernel
theorem dX6_readReach_6 : decode cX6_readReach 6 = .ok (.bipush 20, 2) := by decide +kernel
theorem dX6_readReach_8 : decode cX6_readReach 8 = .ok (.invokevirtual 95, 3) := by decide +kernel
theorem dX6_readReach_11 : decode cX6_readReach 11 = .ok (.ifCond .ne 5, 3) := by decide +kernel
theorem dX6_readReach_14 : decode cX6_readReach 14 = .ok (.iconst 0, 1) := by decide +kernel
theorem dX6_readReach_15 : decode cX6_readReach 15 = .ok (.ireturn, 1) := by decide +kernel
theorem dX6_readReach_16 : decode cX6_readReach 16 = .ok (.aload_n 0, 1) := by decide +kernel
theorem dX6_readReach_17 : decode cX6_readReach 17 = .ok (.getfield 22, 3) := by decide +kernel
theorem dX6_readReach_20 : decode cX6_readReach 20 = .ok (.aload_n 0, 1) := by decide +kernel
theorem dX6_readReach_21 : decode cX6_readReach 21 = .ok (.getfield 99, 3) := by decide +kernel
theorem dX6_readReach_24 : decode cX6_readReach 24 = .ok (.putfield 118, 3) := by decide +kernel
theorem dX6_readReach_27 : decode cX6_readReach 27 = .ok (.iconst 1, 1) := by decide +kernel
theorem dX6_readReach_28 : decode cX6_readReach 28 = .ok (.ireturn, 1) := by decide +kernel
theorem dX6_readQuake_0 : decode cX6_readQuake 0 = .ok (.aload_n 0, 1) := by decide +kernel
theorem dX6_readQuake_1 : decode cX6_readQuake 1 = .ok (.invokevirtual 92, 3) := by decide +kernel
theorem dX6_readQuake_4 : decode cX6_readQuake 4 = .ok (.aload_n 0, 1) := by decide +kernel
theorem dX6_readQuake_5 : decode cX6_readQuake 5 = .ok (.iconst 0, 1) := by decide +kernel
theorem dX6_readQuake_6 : decode cX6_readQuake 6 = .ok (.bipush 100, 2) := by decide +kernel
theorem dX6_readQuake_8 : decode cX6_readQuake 8 = .ok (.invokevirtual 95, 3) := by decide +kernel
theorem dX6_readQuake_11 : decode cX6_readQuake 11 = .ok (.ifCond .ne 5, 3) := by decide +kernel
theorem dX6_readQuake_14 : decode cX6_readQuake 14 = .ok (.iconst 0, 1) := by decide +kernel
theorem dX6_readQuake_15 : decode cX6_readQuake 15 = .ok (.ireturn, 1) := by decide +kernel
theorem dX6_readQuake_16 : decode cX6_readQuake 16 = .ok (.aload_n 0, 1) := by decide +kernel
theorem dX6_readQuake_17 : decode cX6_readQuake 17 = .ok (.getfield 22, 3) := by decide +kernel
theorem dX6_readQuake_20 : decode cX6_readQuake 20 = .ok (.aload_n 0, 1) := by decide +kernel
theorem dX6_readQuake_21 : decode cX6_readQuake 21 = .ok (.getfield 99, 3) := by decide +kernel
theorem dX6_readQuake_24 : decode cX6_readQuake 24 = .ok (.putfield 121, 3) := by decide +kernel
theorem dX6_readQuake_27 : decode cX6_readQuake 27 = .ok (.iconst 1, 1) := by decide +kernel
theorem dX6_readQuake_28 : decode cX6_readQuake 28 = .ok (.ireturn, 1) := by decide +kernel
theorem dX6_readGrade_0 : decode cX6_readGrade 0 = .ok (.aload_n 0, 1) := by decide +kernel
theorem dX6_readGrade_1 : decode cX6_readGrade 1 = .ok (.invokevirtual 92, 3) := by decide +kernel
theorem dX6_readGrade_4 : decode cX6_readGrade 4 = .ok (.aload_n 0, 1) := by decide +kernel
theorem dX6_readGrade_5 : decode cX6_readGrade 5 = .ok (.invokevirtual 124, 3) := by decide +kernel
theorem dX6_readGrade_8 : decode cX6_readGrade 8 = .ok (.istore_n 1, 1) := by decide +kernel
theorem dX6_readGrade_9 : decode cX6_readGrade 9 = .ok (.iload_n 1, 1) := by decide +kernel
theorem dX6_readGrade_10 : decode cX6_readGrade 10 = .ok (.iconst (-1), 1) := by decide +kernel
theorem dX6_readGrade_11 : decode cX6_readGrade 11 = .ok (.if_icmp .eq 13, 3) := by decide +kernel
theorem dX6_readGrade_14 : decode cX6_readGrade 14 = .ok (.aload_n 0, 1) := by decide +kernel
theorem dX6_readGrade_15 : decode cX6_readGrade 15 = .ok (.iconst 0, 1) := by decide +kernel
theorem dX6_readGrade_16 : decode cX6_readGrade 16 = .ok (.bipush 9, 2) := by decide +kernel
theorem dX6_readGrade_18 : decode cX6_readGrade 18 = .ok (.invokevirtual 95, 3) := by decide +kernel
theorem dX6_readGrade_21 : decode cX6_readGrade 21 = .ok (.ifCond .ne 5, 3) := by decide +kernel
theorem dX6_readGrade_24 : decode cX6_readGrade 24 = .ok (.iconst 0, 1) := by decide +kernel
theorem dX6_readGrade_25 : decode cX6_readGrade 25 = .ok (.ireturn, 1) := by decide +kernel
theorem dX6_readGrade_26 : decode cX6_readGrade 26 = .ok (.aload_n 0, 1) := by decide +kernel
theorem dX6_readGrade_27 : decode cX6_readGrade 27 = .ok (.getfield 22, 3) := by decide +kernel
theorem dX6_readGrade_30 : decode cX6_readGrade 30 = .ok (.getfield 128, 3) := by decide +kernel
theorem dX6_readGrade_33 : decode cX6_readGrade 33 = .ok (.iload_n 1, 1) := by decide +kernel
theorem dX6_readGrade_34 : decode cX6_readGrade 34 = .ok (.aload_n 0, 1) := by decide +kernel
theorem dX6_readGrade_35 : decode cX6_readGrade 35 = .ok (.getfield 99, 3) := by decide +kernel
theorem dX6_readGrade_38 : decode cX6_readGrade 38 = .ok (.iastore, 1) := by decide +kernel
theorem dX6_readGrade_39 : decode cX6_readGrade 39 = .ok (.iconst 1, 1) := by decide +kernel
theorem dX6_readGrade_40 : decode cX6_readGrade 40 = .ok (.ireturn, 1) := by decide +kernel
theorem dX6_readMiner_0 : decode cX6_readMiner 0 = .ok (.aload_n 0, 1) := by decide +kernel
theorem dX6_readMiner_1 : decode cX6_readMiner 1 = .ok (.getfield 22, 3) := by decide +kernel
theorem dX6_readMiner_4 : decode cX6_readMiner 4 = .ok (.getfield 131, 3) := by decide +kernel
theorem dX6_readMiner_7 : decode cX6_readMiner 7 = .ok (.bipush 6, 2) := by decide +kernel
theorem dX6_readMiner_9 : decode cX6_readMiner 9 = .ok (.if_icmp .ne 10, 3) := by decide +kernel
theorem dX6_readMiner_12 : decode cX6_readMiner 12 = .ok (.aload_n 0, 1) := by decide +kernel
theorem dX6_readMiner_13 : decode cX6_readMiner 13 = .ok (.bipush 6, 2) := by decide +kernel
theorem dX6_readMiner_15 : decode cX6_readMiner 15 = .ok (.invokevirtual 55, 3) := by decide +kernel
theorem dX6_readMiner_18 : decode cX6_readMiner 18 = .ok (.ireturn, 1) := by decide +kernel
theorem dX6_readMiner_19 : decode cX6_readMiner 19 = .ok (.aload_n 0, 1) := by decide +kernel
theorem dX6_readMiner_20 : decode cX6_readMiner 20 = .ok (.invokevirtual 92, 3) := by decide +kernel
theorem dX6_readMiner_23 : decode cX6_readMiner 23 = .ok (.aload_n 0, 1) := by decide +kernel
theorem dX6_readMiner_24 : decode cX6_readMiner 24 = .ok (.invokevirtual 134, 3) := by decide +kernel
theorem dX6_readMiner_27 : decode cX6_readMiner 27 = .ok (.ifCond .ne 5, 3) := by decide +kernel
theorem dX6_readMiner_30 : decode cX6_readMiner 30 = .ok (.iconst 0, 1) := by decide +kernel
theorem dX6_readMiner_31 : decode cX6_readMiner 31 = .ok (.ireturn, 1) := by decide +kernel
theorem dX6_readMiner_32 : decode cX6_readMiner 32 = .ok (.aload_n 0, 1) := by decide +kernel
theorem dX6_readMiner_33 : decode cX6_readMiner 33 = .ok (.getfield 22, 3) := by decide +kernel
theorem dX6_readMiner_36 : decode cX6_readMiner 36 = .ok (.getfield 137, 3) := by decide +kernel
theorem dX6_readMiner_39 : decode cX6_readMiner 39 = .ok (.aload_n 0, 1) := by decide +kernel
theorem dX6_readMiner_40 : decode cX6_readMiner 40 = .ok (.getfield 22, 3) := by decide +kernel
theorem dX6_readMiner_43 : decode cX6_readMiner 43 = .ok (.getfield 131, 3) := by decide +kernel
theorem dX6_readMiner_46 : decode cX6_readMiner 46 = .ok (.aload_n 0, 1) := by decide +kernel
theorem dX6_readMiner_47 : decode cX6_readMiner 47 = .ok (.getfield 99, 3) := by decide +kernel
theorem dX6_readMiner_50 : decode cX6_readMiner 50 = .ok (.iastore, 1) := by decide +kernel
theorem dX6_readMiner_51 : decode cX6_readMiner 51 = .ok (.aload_n 0, 1) := by decide +kernel
theorem dX6_readMiner_52 : decode cX6_readMiner 52 = .ok (.getfield 22, 3) := by decide +kernel
theorem dX6_readMiner_55 : decode cX6_readMiner 55 = .ok (.dup, 1) := by decide +kernel
theorem dX6_readMiner_56 : decode cX6_readMiner 56 = .ok (.getfield 131, 3) := by decide +kernel
theorem dX6_readMiner_59 : decode cX6_readMiner 59 = .ok (.iconst 1, 1) := by decide +kernel
theorem dX6_readMiner_60 : decode cX6_readMiner 60 = .ok (.iadd, 1) := by decide +kernel
theorem dX6_readMiner_61 : decode cX6_readMiner 61 = .ok (.putfield 131, 3) := by decide +kernel
theorem dX6_readMiner_64 : decode cX6_readMiner 64 = .ok (.iconst 1, 1) := by decide +kernel
theorem dX6_readMiner_65 : decode cX6_readMiner 65 = .ok (.ireturn, 1) := by decide +kernel
theorem dX6_readDig_0 : decode cX6_readDig 0 = .ok (.aload_n 0, 1) := by decide +kernel
theorem dX6_readDig_1 : decode cX6_readDig 1 = .ok (.getfield 22, 3) := by decide +kernel
theorem dX6_readDig_4 : decode cX6_readDig 4 = .ok (.getfield 140, 3) := by decide +kernel
theorem dX6_readDig_7 : decode cX6_readDig 7 = .ok (.bipush 16, 2) := by decide +kernel
theorem dX6_readDig_9 : decode cX6_readDig 9 = .ok (.if_icmp .ne 10, 3) := by decide +kernel
theorem dX6_readDig_12 : decode cX6_readDig 12 = .ok (.aload_n 0, 1) := by decide +kernel
theorem dX6_readDig_13 : decode cX6_readDig 13 = .ok (.bipush 6, 2) := by decide +kernel
theorem dX6_readDig_15 : decode cX6_readDig 15 = .ok (.invokevirtual 55, 3) := by decide +kernel
theorem dX6_readDig_18 : decode cX6_readDig 18 = .ok (.ireturn, 1) := by decide +kernel
theorem dX6_readDig_19 : decode cX6_readDig 19 = .ok (.aload_n 0, 1) := by decide +kernel
theorem dX6_readDig_20 : decode cX6_readDig 20 = .ok (.invokevirtual 92, 3) := by decide +kernel
theorem dX6_readDig_23 : decode cX6_readDig 23 = .ok (.aload_n 0, 1) := by decide +kernel
theorem dX6_readDig_24 : decode cX6_readDig 24 = .ok (.invokevirtual 143, 3) := by decide +kernel
theorem dX6_readDig_27 : decode cX6_readDig 27 = .ok (.istore_n 1, 1) := by decide +kernel
theorem dX6_readDig_28 : decode cX6_readDig 28 = .ok (.iload_n 1, 1) := by decide +kernel
theorem dX6_readDig_29 : decode cX6_readDig 29 = .ok (.iconst (-1), 1) := by decide +kernel
theorem dX6_readDig_30 : decode cX6_readDig 30 = .ok (.if_icmp .eq 12, 3) := by decide +kernel
theorem dX6_readDig_33 : decode cX6_readDig 33 = .ok (.aload_n 0, 1) := by decide +kernel
theorem dX6_readDig_34 : decode cX6_readDig 34 = .ok (.bipush 8, 2) := by decide +kernel
theorem dX6_readDig_36 : decode cX6_readDig 36 = .ok (.invokevirtual 102, 3) := by decide +kernel
theorem dX6_readDig_39 : decode cX6_readDig 39 = .ok (.ifCond .ne 5, 3) := by decide +kernel
theorem dX6_readDig_42 : decode cX6_readDig 42 = .ok (.iconst 0, 1) := by decide +kernel
theorem dX6_readDig_43 : decode cX6_readDig 43 = .ok (.ireturn, 1) := by decide +kernel
theorem dX6_readDig_44 : decode cX6_readDig 44 = .ok (.aload_n 0, 1) := by decide +kernel
theorem dX6_readDig_45 : decode cX6_readDig 45 = .ok (.invokevirtual 124, 3) := by decide +kernel
theorem dX6_readDig_48 : decode cX6_readDig 48 = .ok (.istore_n 2, 1) := by decide +kernel
theorem dX6_readDig_49 : decode cX6_readDig 49 = .ok (.iload_n 2, 1) := by decide +kernel
theorem dX6_readDig_50 : decode cX6_readDig 50 = .ok (.iconst (-1), 1) := by decide +kernel
theorem dX6_readDig_51 : decode cX6_readDig 51 = .ok (.if_icmp .ne 5, 3) := by decide +kernel
theorem dX6_readDig_54 : decode cX6_readDig 54 = .ok (.iconst 0, 1) := by decide +kernel
theorem dX6_readDig_55 : decode cX6_readDig 55 = .ok (.ireturn, 1) := by decide +kernel
theorem dX6_readDig_56 : decode cX6_readDig 56 = .ok (.aload_n 0, 1) := by decide +kernel
theorem dX6_readDig_57 : decode cX6_readDig 57 = .ok (.getfield 22, 3) := by decide +kernel
theorem dX6_readDig_60 : decode cX6_readDig 60 = .ok (.getfield 146, 3) := by decide +kernel
theorem dX6_readDig_63 : decode cX6_readDig 63 = .ok (.aload_n 0, 1) := by decide +kernel
theorem dX6_readDig_64 : decode cX6_readDig 64 = .ok (.getfield 22, 3) := by decide +kernel
theorem dX6_readDig_67 : decode cX6_readDig 67 = .ok (.getfield 140, 3) := by decide +kernel
theorem dX6_readDig_70 : decode cX6_readDig 70 = .ok (.iload_n 1, 1) := by decide +kernel
theorem dX6_readDig_71 : decode cX6_readDig 71 = .ok (.iastore, 1) := by decide +kernel
theorem dX6_readDig_72 : decode cX6_readDig 72 = .ok (.aload_n 0, 1) := by decide +kernel
theorem dX6_readDig_73 : decode cX6_readDig 73 = .ok (.getfield 22, 3) := by decide +kernel
theorem dX6_readDig_76 : decode cX6_readDig 76 = .ok (.getfield 149, 3) := by decide +kernel
theorem dX6_readDig_79 : decode cX6_readDig 79 = .ok (.aload_n 0, 1) := by decide +kernel
theorem dX6_readDig_80 : decode cX6_readDig 80 = .ok (.getfield 22, 3) := by decide +kernel
theorem dX6_readDig_83 : decode cX6_readDig 83 = .ok (.getfield 140, 3) := by decide +kernel
theorem dX6_readDig_86 : decode cX6_readDig 86 = .ok (.iload_n 2, 1) := by decide +kernel
theorem dX6_readDig_87 : decode cX6_readDig 87 = .ok (.iastore, 1) := by decide +kernel
theorem dX6_readDig_88 : decode cX6_readDig 88 = .ok (.aload_n 0, 1) := by decide +kernel
theorem dX6_readDig_89 : decode cX6_readDig 89 = .ok (.getfield 22, 3) := by decide +kernel
theorem dX6_readDig_92 : decode cX6_readDig 92 = .ok (.dup, 1) := by decide +kernel
theorem dX6_readDig_93 : decode cX6_readDig 93 = .ok (.getfield 140, 3) := by decide +kernel
theorem dX6_readDig_96 : decode cX6_readDig 96 = .ok (.iconst 1, 1) := by decide +kernel
theorem dX6_readDig_97 : decode cX6_readDig 97 = .ok (.iadd, 1) := by decide +kernel
theorem dX6_readDig_98 : decode cX6_readDig 98 = .ok (.putfield 140, 3) := by decide +kernel
theorem dX6_readDig_101 : decode cX6_readDig 101 = .ok (.iconst 1, 1) := by decide +kernel
theorem dX6_readDig_102 : decode cX6_readDig 102 = .ok (.ireturn, 1) := by decide +kernel
theorem dX6_readOrder_0 : decode cX6_readOrder 0 = .ok (.aload_n 0, 1) := by decide +kernel
theorem dX6_readOrder_1 : decode cX6_readOrder 1 = .ok (.getfield 22, 3) := by decide +kernel
theorem dX6_readOrder_4 : decode cX6_readOrder 4 = .ok (.getfield 152, 3) := by decide +kernel
theorem dX6_readOrder_7 : decode cX6_readOrder 7 = .ok (.istore_n 1, 1) := by decide +kernel
theorem dX6_readOrder_8 : decode cX6_readOrder 8 = .ok (.iload_n 1, 1) := by decide +kernel
theorem dX6_readOrder_9 : decode cX6_readOrder 9 = .ok (.iconst 5, 1) := by decide +kernel
theorem dX6_readOrder_10 : decode cX6_readOrder 10 = .ok (.if_icmp .ne 10, 3) := by decide +kernel
theorem dX6_readOrder_13 : decode cX6_readOrder 13 = .ok (.aload_n 0, 1) := by decide +kernel
theorem dX6_readOrder_14 : decode cX6_readOrder 14 = .ok (.bipush 6, 2) := by decide +kernel
theorem dX6_readOrder_16 : decode cX6_readOrder 16 = .ok (.invokevirtual 55, 3) := by decide +kernel
theorem dX6_readOrder_19 : decode cX6_readOrder 19 = .ok (.ireturn, 1) := by decide +kernel
theorem dX6_readOrder_20 : decode cX6_readOrder 20 = .ok (.aload_n 0, 1) := by decide +kernel
theorem dX6_readOrder_21 : decode cX6_readOrder 21 = .ok (.invokevirtual 92, 3) := by decide +kernel
theorem dX6_readOrder_24 : decode cX6_readOrder 24 = .ok (.aload_n 0, 1) := by decide +kernel
theorem dX6_readOrder_25 : decode cX6_readOrder 25 = .ok (.invokevirtual 134, 3) := by decide +kernel
theorem dX6_readOrder_28 : decode cX6_readOrder 28 = .ok (.ifCond .ne 5, 3) := by decide +kernel
theorem dX6_readOrder_31 : decode cX6_readOrder 31 = .ok (.iconst 0, 1) := by decide +kernel
theorem dX6_readOrder_32 : decode cX6_readOrder 32 = .ok (.ireturn, 1) := by decide +kernel
theorem dX6_readOrder_33 : decode cX6_readOrder 33 = .ok (.aload_n 0, 1) := by decide +kernel
theorem dX6_readOrder_34 : decode cX6_readOrder 34 = .ok (.getfield 22, 3) := by decide +kernel
theorem dX6_readOrder_37 : decode cX6_readOrder 37 = .ok (.getfield 155, 3) := by decide +kernel
theorem dX6_readOrder_40 : decode cX6_readOrder 40 = .ok (.iload_n 1, 1) := by decide +kernel
theorem dX6_readOrder_41 : decode cX6_readOrder 41 = .ok (.aload_n 0, 1) := by decide +kernel
theorem dX6_readOrder_42 : decode cX6_readOrder 42 = .ok (.getfield 99, 3) := by decide +kernel
theorem dX6_readOrder_45 : decode cX6_readOrder 45 = .ok (.iastore, 1) := by decide +kernel
theorem dX6_readOrder_46 : decode cX6_readOrder 46 = .ok (.aload_n 0, 1) := by decide +kernel
theorem dX6_readOrder_47 : decode cX6_readOrder 47 = .ok (.iconst 5, 1) := by decide +kernel
theorem dX6_readOrder_48 : decode cX6_readOrder 48 = .ok (.invokevirtual 102, 3) := by decide +kernel
theorem dX6_readOrder_51 : decode cX6_readOrder 51 = .ok (.ifCond .eq 13, 3) := by decide +kernel
theorem dX6_readOrder_54 : decode cX6_readOrder 54 = .ok (.aload_n 0, 1) := by decide +kernel
theorem dX6_readOrder_55 : decode cX6_readOrder 55 = .ok (.iconst 0, 1) := by decide +kernel
theorem dX6_readOrder_56 : decode cX6_readOrder 56 = .ok (.bipush 9, 2) := by decide +kernel
theorem dX6_readOrder_58 : decode cX6_readOrder 58 = .ok (.invokevirtual 95, 3) := by decide +kernel
theorem dX6_readOrder_61 : decode cX6_readOrder 61 = .ok (.ifCond .ne 5, 3) := by decide +kernel
theorem dX6_readOrder_64 : decode cX6_readOrder 64 = .ok (.iconst 0, 1) := by decide +kernel
theorem dX6_readOrder_65 : decode cX6_readOrder 65 = .ok (.ireturn, 1) := by decide +kernel
theorem dX6_readOrder_66 : decode cX6_readOrder 66 = .ok (.aload_n 0, 1) := by decide +kernel
theorem dX6_readOrder_67 : decode cX6_readOrder 67 = .ok (.getfield 22, 3) := by decide +kernel
theorem dX6_readOrder_70 : decode cX6_readOrder 70 = .ok (.getfield 158, 3) := by decide +kernel
theorem dX6_readOrder_73 : decode cX6_readOrder 73 = .ok (.iload_n 1, 1) := by decide +kernel
theorem dX6_readOrder_74 : decode cX6_readOrder 74 = .ok (.aload_n 0, 1) := by decide +kernel
theorem dX6_readOrder_75 : decode cX6_readOrder 75 = .ok (.getfield 99, 3) := by decide +kernel
theorem dX6_readOrder_78 : decode cX6_readOrder 78 = .ok (.iastore, 1) := by decide +kernel
theorem dX6_readOrder_79 : decode cX6_readOrder 79 = .ok (.aload_n 0, 1) := by decide +kernel
theorem dX6_readOrder_80 : decode cX6_readOrder 80 = .ok (.bipush 10, 2) := by decide +kernel
theorem dX6_readOrder_82 : decode cX6_readOrder 82 = .ok (.invokevirtual 102, 3) := by decide +kernel
theorem dX6_readOrder_85 : decode cX6_readOrder 85 = .ok (.ifCond .eq 13, 3) := by decide +kernel
theorem dX6_readOrder_88 : decode cX6_readOrder 88 = .ok (.aload_n 0, 1) := by decide +kernel
theorem dX6_readOrder_89 : decode cX6_readOrder 89 = .ok (.iconst 1, 1) := by decide +kernel
theorem dX6_readOrder_90 : decode cX6_readOrder 90 = .ok (.bipush 9, 2) := by decide +kernel
theorem dX6_readOrder_92 : decode cX6_readOrder 92 = .ok (.invokevirtual 95, 3) := by decide +kernel
theorem dX6_readOrder_95 : decode cX6_readOrder 95 = .ok (.ifCond .ne 5, 3) := by decide +kernel
theorem dX6_readOrder_98 : decode cX6_readOrder 98 = .ok (.iconst 0, 1) := by decide +kernel
theorem dX6_readOrder_99 : decode cX6_readOrder 99 = .ok (.ireturn, 1) := by decide +kernel
theorem dX6_readOrder_100 : decode cX6_readOrder 100 = .ok (.aload_n 0, 1) := by decide +kernel
theorem dX6_readOrder_101 : decode cX6_readOrder 101 = .ok (.getfield 22, 3) := by decide +kernel
theorem dX6_readOrder_104 : decode cX6_readOrder 104 = .ok (.getfield 161, 3) := by decide +kernel
theorem dX6_readOrder_107 : decode cX6_readOrder 107 = .ok (.iload_n 1, 1) := by decide +kernel
theorem dX6_readOrder_108 : decode cX6_readOrder 108 = .ok (.aload_n 0, 1) := by decide +kernel
theorem dX6_readOrder_109 : decode cX6_readOrder 109 = .ok (.getfield 99, 3) := by decide +kernel
theorem dX6_readOrder_112 : decode cX6_readOrder 112 = .ok (.iastore, 1) := by decide +kernel
theorem dX6_readOrder_113 : decode cX6_readOrder 113 = .ok (.aload_n 0, 1) := by decide +kernel
theorem dX6_readOrder_114 : decode cX6_readOrder 114 = .ok (.bipush 11, 2) := by decide +kernel
theorem dX6_readOrder_116 : decode cX6_readOrder 116 = .ok (.invokevirtual 102, 3) := by decide +kernel
theorem dX6_readOrder_119 : decode cX6_readOrder 119 = .ok (.ifCond .eq 14, 3) := by decide +kernel
theorem dX6_readOrder_122 : decode cX6_readOrder 122 = .ok (.aload_n 0, 1) := by decide +kernel
theorem dX6_readOrder_123 : decode cX6_readOrder 123 = .ok (.iconst 0, 1) := by decide +kernel
theorem dX6_readOrder_124 : decode cX6_readOrder 124 = .ok (.sipush 999, 3) := by decide +kernel
theorem dX6_readOrder_127 : decode cX6_readOrder 127 = .ok (.invokevirtual 95, 3) := by decide +kernel
theorem dX6_readOrder_130 : decode cX6_readOrder 130 = .ok (.ifCond .ne 5, 3) := by decide +kernel
theorem dX6_readOrder_133 : decode cX6_readOrder 133 = .ok (.iconst 0, 1) := by decide +kernel
theorem dX6_readOrder_134 : decode cX6_readOrder 134 = .ok (.ireturn, 1) := by decide +kernel
theorem dX6_readOrder_135 : decode cX6_readOrder 135 = .ok (.aload_n 0, 1) := by decide +kernel
theorem dX6_readOrder_136 : decode cX6_readOrder 136 = .ok (.getfield 22, 3) := by decide +kernel
theorem dX6_readOrder_139 : decode cX6_readOrder 139 = .ok (.getfield 164, 3) := by decide +kernel
theorem dX6_readOrder_142 : decode cX6_readOrder 142 = .ok (.iload_n 1, 1) := by decide +kernel
theorem dX6_readOrder_143 : decode cX6_readOrder 143 = .ok (.aload_n 0, 1) := by decide +kernel
theorem dX6_readOrder_144 : decode cX6_readOrder 144 = .ok (.getfield 99, 3) := by decide +kernel
theorem dX6_readOrder_147 : decode cX6_readOrder 147 = .ok (.iastore, 1) := by decide +kernel
theorem dX6_readOrder_148 : decode cX6_readOrder 148 = .ok (.aload_n 0, 1) := by decide +kernel
theorem dX6_readOrder_149 : decode cX6_readOrder 149 = .ok (.getfield 22, 3) := by decide +kernel
theorem dX6_readOrder_152 : decode cX6_readOrder 152 = .ok (.dup, 1) := by decide +kernel
theorem dX6_readOrder_153 : decode cX6_readOrder 153 = .ok (.getfield 152, 3) := by decide +kernel
theorem dX6_readOrder_156 : decode cX6_readOrder 156 = .ok (.iconst 1, 1) := by decide +kernel
theorem dX6_readOrder_157 : decode cX6_readOrder 157 = .ok (.iadd, 1) := by decide +kernel
theorem dX6_readOrder_158 : decode cX6_readOrder 158 = .ok (.putfield 152, 3) := by decide +kernel
theorem dX6_readOrder_161 : decode cX6_readOrder 161 = .ok (.iconst 1, 1) := by decide +kernel
theorem dX6_readOrder_162 : decode cX6_readOrder 162 = .ok (.ireturn, 1) := by decide +kernel
theorem wB_714 : Cond.code yX6_takeOwn cX6_takeOwn 2 (some .boolean) ∈ dgB := List.mem_filter.mpr ⟨tbl_3 _ (List.mem_of_getElem? (i := 221) rfl), rfl⟩
theorem wB_715 : Cond.methodLink RX6 102 yX6_takeOwn ∈ dgB := List.mem_filter.mpr ⟨tbl_3 _ (List.mem_of_getElem? (i := 218) (by decide +kernel)), by decide +kernel⟩
theorem wB_716 : Cond.instanceMethod yX6_takeOwn ∈ dgB := List.mem_filter.mpr ⟨tbl_3 _ (List.mem_of_getElem? (i := 220) (by decide +kernel)), by decide +kernel⟩
theorem wB_717 : Cond.selects RX6 yX6_takeOwn yX6_takeOwn ∈ dgB := List.mem_filter.mpr ⟨List.mem_of_getElem? (i := 12) (by decide +kernel), by decide +kernel⟩
theorem wB_718 : Cond.fieldLink RX6 115 "DarkMine$Ground" "shaftPlace" "I" ∈ dgB := List.mem_filter.mpr ⟨tbl_1 _ (List.mem_of_getElem? (i := 190) (by decide +kernel)), by decide +kernel⟩
theorem wB_719 : Cond.fieldLink RX6 118 "DarkMine$Ground" "reach" "I" ∈ dgB := List.mem_filter.mpr ⟨tbl_1 _ (List.mem_of_getElem? (i := 196) (by decide +kernel)), by decide +kernel⟩
theorem wB_720 : Cond.fieldLink RX6 121 "DarkMine$Ground" "quake" "I" ∈ dgB := List.mem_filter.mpr ⟨tbl_1 _ (List.mem_of_getElem? (i := 199) (by decide +kernel)), by decide +kernel⟩
theorem wB_721 : Cond.code yX6_takeCell cX6_takeCell 2 (some .int) ∈ dgB := List.mem_filter.mpr ⟨tbl_4 _ (List.mem_of_getElem? (i := 5) rfl), rfl⟩
theorem wB_722 : Cond.methodLink RX6 124 yX6_takeCell ∈ dgB := List.mem_filter.mpr ⟨tbl_4 _ (List.mem_of_getElem? (i := 2) (by decide +kernel)), by decide +kernel⟩
theorem wB_723 : Cond.instanceMethod yX6_takeCell ∈ dgB := List.mem_filter.mpr ⟨tbl_4 _ (List.mem_of_getElem? (i := 4) (by decide +kernel)), by decide +kernel⟩
theorem wB_724 : Cond.selects RX6 yX6_takeCell yX6_takeCell ∈ dgB := List.mem_filter.mpr ⟨List.mem_of_getElem? (i := 17) (by decide +kernel), by decide +kernel⟩
theorem wB_725 : Cond.fieldLink RX6 128 "DarkMine$Ground" "grades" "[I" ∈ dgB := List.mem_filter.mpr ⟨tbl_1 _ (List.mem_of_getElem? (i := 204) (by decide +kernel)), by decide +kernel⟩
theorem wB_726 : Cond.fieldLink RX6 131 "DarkMine$Ground" "miners" "I" ∈ dgB := List.mem_filter.mpr ⟨tbl_1 _ (List.mem_of_getElem? (i := 208) (by decide +kernel)), by decide +kernel⟩
theorem wB_727 : Cond.code yX6_takeNewName cX6_takeNewName 1 (some .boolean) ∈ dgB := List.mem_filter.mpr ⟨tbl_4 _ (List.mem_of_getElem? (i := 13) rfl), rfl⟩
theorem wB_728 : Cond.methodLink RX6 134 yX6_takeNewName ∈ dgB := List.mem_filter.mpr ⟨tbl_4 _ (List.mem_of_getElem? (i := 10) (by decide +kernel)), by decide +kernel⟩
theorem wB_729 : Cond.instanceMethod yX6_takeNewName ∈ dgB := List.mem_filter.mpr ⟨tbl_4 _ (List.mem_of_getElem? (i := 12) (by decide +kernel)), by decide +kernel⟩
theorem wB_730 : Cond.selects RX6 yX6_takeNewName yX6_takeNewName ∈ dgB := List.mem_filter.mpr ⟨List.mem_of_getElem? (i := 19) (by decide +kernel), by decide +kernel⟩
theorem wB_731 : Cond.fieldLink RX6 137 "DarkMine$Ground" "minerNames" "[I" ∈ dgB := List.mem_filter.mpr ⟨tbl_1 _ (List.mem_of_getElem? (i := 211) (by decide +kernel)), by decide +kernel⟩
theorem wB_732 : Cond.fieldLink RX6 140 "DarkMine$Ground" "planRows" "I" ∈ dgB := List.mem_filter.mpr ⟨tbl_1 _ (List.mem_of_getElem? (i := 217) (by decide +kernel)), by decide +kernel⟩
theorem wB_733 : Cond.code yX6_takeMiner cX6_takeMiner 2 (some .int) ∈ dgB := List.mem_filter.mpr ⟨tbl_4 _ (List.mem_of_getElem? (i := 29) rfl), rfl⟩
theorem wB_734 : Cond.methodLink RX6 143 yX6_takeMiner ∈ dgB := List.mem_filter.mpr ⟨tbl_4 _ (List.mem_of_getElem? (i := 26) (by decide +kernel)), by decide +kernel⟩
theorem wB_735 : Cond.instanceMethod yX6_takeMiner ∈ dgB := List.mem_filter.mpr ⟨tbl_4 _ (List.mem_of_getElem? (i := 28) (by decide +kernel)), by decide +kernel⟩
theorem wB_736 : Cond.selects RX6 yX6_takeMiner yX6_takeMiner ∈ dgB := List.mem_filter.mpr ⟨List.mem_of_getElem? (i := 21) (by decide +kernel), by decide +kernel⟩
theorem wB_737 : Cond.fieldLink RX6 146 "DarkMine$Ground" "planMiners" "[I" ∈ dgB := List.mem_filter.mpr ⟨tbl_1 _ (List.mem_of_getElem? (i := 220) (by decide +kernel)), by decide +kernel⟩
theorem wB_738 : Cond.fieldLink RX6 149 "DarkMine$Ground" "planPlaces" "[I" ∈ dgB := List.mem_filter.mpr ⟨tbl_1 _ (List.mem_of_getElem? (i := 223) (by decide +kernel)), by decide +kernel⟩
theorem wB_739 : Cond.fieldLink RX6 152 "DarkMine$Ground" "orders" "I" ∈ dgB := List.mem_filter.mpr ⟨tbl_1 _ (List.mem_of_getElem? (i := 227) (by decide +kernel)), by decide +kernel⟩
theorem wB_740 : Cond.fieldLink RX6 155 "DarkMine$Ground" "orderNames" "[I" ∈ dgB := List.mem_filter.mpr ⟨tbl_1 _ (List.mem_of_getElem? (i := 230) (by decide +kernel)), by decide +kernel⟩
theorem wB_741 : Cond.fieldLink RX6 158 "DarkMine$Ground" "orderGrades" "[I" ∈ dgB := List.mem_filter.mpr ⟨tbl_1 _ (List.mem_of_getElem? (i := 233) (by decide +kernel)), by decide +kernel⟩
theorem wB_742 : Cond.fieldLink RX6 161 "DarkMine$Ground" "orderTubs" "[I" ∈ dgB := List.mem_filter.mpr ⟨tbl_1 _ (List.mem_of_getElem? (i := 236) (by decide +kernel)), by decide +kernel⟩
theorem wB_743 : Cond.fieldLink RX6 164 "DarkMine$Ground" "orderPays" "[I" ∈ dgB := List.mem_filter.mpr ⟨tbl_1 _ (List.mem_of_getElem? (i := 239) (by decide +kernel)), by decide +kernel⟩
set_option maxHeartbeats 8000000 in
set_option maxRecDepth 100000 in
theorem c_rd_readSeam (l : Launch) (g : Nat → ClassId) (D : va_G) (o : Nat) (S : dg_S) (en : Int32) (n0 : Int32) (f_n0 : S.1 209 4 = .int n0) (b_n0 : 0 ≤ (n0).toInt ∧ (n0).toInt ≤ 1600) (ke : Int32) (f_ke : S.2.1 211 (en : Int32).toNatClampNeg = ke) (b_ke : 0 ≤ (ke).toInt ∧ (ke).toInt ≤ 0) (hne : (n0).toInt ≤ (en).toInt ∧ (en).toInt ≤ 1600 ∧ 0 ≤ (en).toInt) (Z1 : Z1X S) (I : CX o S) (sz : Nat) : Met l yX6_readSeam (bw yX6_readSeam cX6_readSeam 2 (some .boolean)) ({ frames := 3, cells := 0, slots := 0, locals := 76 } : Room) (dk_Pc g D (dg_w g shX o rfX S) sz [.ref (o + 209)]) (va_Qi (fun (r : Int32) S' => CX o S' ∧ dg_sm shX [(19, 0), (19, 1), (19, 2), (31, 0), (31, 1), (31, 4), (31, 5)] [] S S' ∧ (0 ≤ (r).toInt ∧ (r).toInt ≤ 1) ∧ (∃ y9 : Int32, S'.1 209 4 = .int y9 ∧ ((y9).toInt ≤ (en).toInt)) ∧ Z1X S' ∧ True) (dg_B g D shX o rfX) (dg_A o shX.length sz)) 0 0 (dg_A o shX.length sz) := by
  refine dg_met (cc := cX6_readSeam) (maxL := 2) (ret := (some .boolean)) (by decide) rfl (Nat.le_of_ble_eq_true rfl) ?_
  intro p e s m args below meth c A hAe harg hx hb hr hml hts hown hlocks hin hP K hS hA1 hA ST hsz ls hl
  rw [← hAe]
  have F : CallFix p m c cX6_readSeam 2 s args (bw yX6_readSeam cX6_readSeam 2 (some .boolean)) RX6 := ⟨hx, hb, hml, hown, hts⟩
  have hl : lv_has ls 2 [(0, .ref (o + 209))] := hl
  have M_0 : dg_sm shX [(19, 0), (19, 1), (19, 2), (31, 0), (31, 1), (31, 4), (31, 5)] [] S S := dg_sm.rf
  refine lv_aload_n hx hb dX6_readSeam_0 rfl (lv_at hl 0 rfl) ?_
  refine dg_callv hS hA1 hA (va_runV (As := []) (rest := []) F (c_rd_pass l g D o S en n0 f_n0 (by omega) ke f_ke (by omega) (by omega) I s.heap.size) (cwV 0 hts (bw_V wB_686 wB_687 wB_688 wB_684 wB_685) rfl rfl rfl (by decide +kernel) ⟨Nat.le_of_ble_eq_true rfl, Nat.le_of_ble_eq_true rfl⟩) (dg_preV sX_209 rfl K ST hP hS hA1 hA) rfl rfl hl.1 rfl (lv_room (Nat.le_of_ble_eq_true rfl)) dX6_readSeam_1 ⟨Nat.le_of_ble_eq_true rfl, Nat.le_of_ble_eq_true rfl⟩) (fun S_1 hw_1 H locs hP hS => ?_)
  obtain ⟨I_1, m_1, w_1_0, -⟩ := hw_1
  have M_1 := dg_sm.tr M_0 m_1 (by decide) (by decide)
  obtain ⟨y_2, f_y_2, w_1_0⟩ := w_1_0
  have w_1_0 : (y_2).toInt ≤ (en).toInt := w_1_0
  have b_y_2 : 0 ≤ (y_2).toInt ∧ (y_2).toInt ≤ 1600 := dg_I.intb (lo := 0) (hi := 1600) I_1 sX_209 (by decide +kernel) f_y_2
  refine lv_aload_n hx hb dX6_readSeam_4 rfl (lv_at hl 0 rfl) ?_
  refine lv_iconst (v := 3) hx hb dX6_readSeam_5 (by decide +kernel) ?_
  refine lv_bipush (v := 7) hx hb dX6_readSeam_6 (by decide +kernel) ?_
  refine dg_calli hS hA1 hA (va_runV (As := [.int 3, .int 7]) (rest := []) F (c_rd_takeNumber l g D o S_1 3 7 en y_2 f_y_2 (by omega) ke ((congrFun (m_1.2 211 _ sX_211 (by decide)).1 _).trans f_ke) (by omega) (by omega) I_1 H.size) (cwV 2 hts (bw_V wB_708 wB_709 wB_710 wB_684 wB_707) rfl rfl rfl (by decide +kernel) ⟨Nat.le_of_ble_eq_true rfl, Nat.le_of_ble_eq_true rfl⟩) (dg_preV sX_209 rfl K ST hP hS hA1 hA) rfl rfl hl.1 rfl (lv_room (Nat.le_of_ble_eq_true rfl)) dX6_readSeam_8 ⟨Nat.le_of_ble_eq_true rfl, Nat.le_of_ble_eq_true rfl⟩) (fun x_3 S_4 hw_4 H locs hP hS => ?_)
  obtain ⟨I_4, m_4, w_4_0, w_4_1, w_4_2, -⟩ := hw_4
  have M_4 := dg_sm.tr M_1 m_4 (by decide) (by decide)
  have hz_5 : (3 : Int32).toInt = 3 := by decide +kernel
  have hz_6 : (7 : Int32).toInt = 7 := by decide +kernel
  have w_4_0 : 0 ≤ (x_3).toInt ∧ (x_3).toInt ≤ 1 := w_4_0
  obtain ⟨y_7, f_y_7, w_4_1⟩ := w_4_1
  have w_4_1 : (x_3).toInt = 1 → (((3 : Int32)).toInt ≤ (y_7).toInt ∧ (y_7).toInt ≤ ((7 : Int32)).toInt) := w_4_1
  obtain ⟨y_8, f_y_8, w_4_2⟩ := w_4_2
  have w_4_2 : (y_8).toInt ≤ (en).toInt := w_4_2
  have b_y_8 : 0 ≤ (y_8).toInt ∧ (y_8).toInt ≤ 1600 := dg_I.intb (lo := 0) (hi := 1600) I_4 sX_209 (by decide +kernel) f_y_8
  refine lv_if_ne (tgt := 16) hx hb dX6_readSeam_11 (by decide) (fun c_9 => ?_) (fun c_9 => ?_)
  · have jc_9 := dk_neqc (k := 0) (by decide +kernel) c_9
    refine lv_aload_n hx hb dX6_readSeam_16 rfl (lv_at hl 0 rfl) ?_
    refine dg_get (C := RX6) (T := TX6) (N := 8) hx hb hts (fun w h => bw_mem (wU_X6 w h)) hown K hP sX_209 rfl 5 (by decide) (hts _ (bw_mem wB_700)) (fun _ h9 => h9) (v := .int y_7) f_y_7 dX6_readSeam_17 ?_
    refine lv_istore_n (lv' := [(1, .int y_7), (0, .ref (o + 209))]) hx hb dX6_readSeam_20 rfl hl (by decide) rfl (fun ls hl => ?_)
    refine lv_aload_n hx hb dX6_readSeam_21 rfl (lv_at hl 1 rfl) ?_
    refine lv_iconst (v := 1) hx hb dX6_readSeam_22 (by decide +kernel) ?_
    refine dg_calli hS hA1 hA (va_runV (As := [.int 1]) (rest := []) F (c_rd_takeOwn l g D o S_4 1 en y_8 f_y_8 (by omega) ke ((congrFun ((m_4.2 211 _ sX_211 (by decide)).1.trans (m_1.2 211 _ sX_211 (by decide)).1) _).trans f_ke) (by omega) (by omega) I_4 H.size) (cwV 1 hts (bw_V wB_715 wB_716 wB_717 wB_684 wB_714) rfl rfl rfl (by decide +kernel) ⟨Nat.le_of_ble_eq_true rfl, Nat.le_of_ble_eq_true rfl⟩) (dg_preV sX_209 rfl K ST hP hS hA1 hA) rfl rfl hl.1 rfl (lv_room (Nat.le_of_ble_eq_true rfl)) dX6_readSeam_23 ⟨Nat.le_of_ble_eq_true rfl, Nat.le_of_ble_eq_true rfl⟩) (fun x_10 S_11 hw_11 H locs hP hS => ?_)
    obtain ⟨I_11, m_11, w_11_0, w_11_1, -⟩ := hw_11
    have M_11 := dg_sm.tr M_4 m_11 (by decide) (by decide)
    have hz_12 : (1 : Int32).toInt = 1 := by decide +kernel
    have w_11_0 : 0 ≤ (x_10).toInt ∧ (x_10).toInt ≤ 1 := w_11_0
    obtain ⟨y_13, f_y_13, w_11_1⟩ := w_11_1
    have w_11_1 : (y_13).toInt ≤ (en).toInt := w_11_1
    have b_y_13 : 0 ≤ (y_13).toInt ∧ (y_13).toInt ≤ 1600 := dg_I.intb (lo := 0) (hi := 1600) I_11 sX_209 (by decide +kernel) f_y_13
    refine lv_if_eq (tgt := 39) hx hb dX6_readSeam_26 (by decide) (fun c_14 => ?_) (fun c_14 => ?_)
    · have jc_14 := dk_eqc (k := 0) (by decide +kernel) c_14
      refine lv_iconst (v := 0) hx hb dX6_readSeam_39 (by decide +kernel) ?_
      have hz_15 : (0 : Int32).toInt = 0 := by decide +kernel
      have hz_16 : (0 : Int32).toInt = 0 := by decide +kernel
      refine W.widen (k := 0) (n := 0) (Nat.le_of_ble_eq_true rfl) (Nat.le_of_ble_eq_true rfl) ?_
      exact dg_iret hx hb hr hlocks (by decide +kernel) hP hS ⟨I_11, M_11, (by decide +kernel), ⟨y_13, f_y_13, (by omega)⟩, (Z1X.keep (Z1X.keep (Z1X.keep Z1 m_1 (by decide) (by decide) (by decide)) m_4 (by decide) (by decide) (by decide)) m_11 (by decide) (by decide) (by decide)), trivial⟩ dX6_readSeam_40
    · have jc_14 := dk_neqc (k := 0) (by decide +kernel) c_14
      refine lv_aload_n hx hb dX6_readSeam_29 rfl (lv_at hl 1 rfl) ?_
      refine lv_iconst (v := 3) hx hb dX6_readSeam_30 (by decide +kernel) ?_
      refine lv_bipush (v := 7) hx hb dX6_readSeam_31 (by decide +kernel) ?_
      refine dg_calli hS hA1 hA (va_runV (As := [.int 3, .int 7]) (rest := []) F (c_rd_takeNumber l g D o S_11 3 7 en y_13 f_y_13 (by omega) ke ((congrFun ((m_11.2 211 _ sX_211 (by decide)).1.trans ((m_4.2 211 _ sX_211 (by decide)).1.trans (m_1.2 211 _ sX_211 (by decide)).1)) _).trans f_ke) (by omega) (by omega) I_11 H.size) (cwV 2 hts (bw_V wB_708 wB_709 wB_710 wB_684 wB_707) rfl rfl rfl (by decide +kernel) ⟨Nat.le_of_ble_eq_true rfl, Nat.le_of_ble_eq_true rfl⟩) (dg_preV sX_209 rfl K ST hP hS hA1 hA) rfl rfl hl.1 rfl (lv_room (Nat.le_of_ble_eq_true rfl)) dX6_readSeam_33 ⟨Nat.le_of_ble_eq_true rfl, Nat.le_of_ble_eq_true rfl⟩) (fun x_17 S_18 hw_18 H locs hP hS => ?_)
      obtain ⟨I_18, m_18, w_18_0, w_18_1, w_18_2, -⟩ := hw_18
      have M_18 := dg_sm.tr M_11 m_18 (by decide) (by decide)
      have hz_19 : (3 : Int32).toInt = 3 := by decide +kernel
      have hz_20 : (7 : Int32).toInt = 7 := by decide +kernel
      have w_18_0 : 0 ≤ (x_17).toInt ∧ (x_17).toInt ≤ 1 := w_18_0
      obtain ⟨y_21, f_y_21, w_18_1⟩ := w_18_1
      have w_18_1 : (x_17).toInt = 1 → (((3 : Int32)).toInt ≤ (y_21).toInt ∧ (y_21).toInt ≤ ((7 : Int32)).toInt) := w_18_1
      obtain ⟨y_22, f_y_22, w_18_2⟩ := w_18_2
      have w_18_2 : (y_22).toInt ≤ (en).toInt := w_18_2
      have b_y_22 : 0 ≤ (y_22).toInt ∧ (y_22).toInt ≤ 1600 := dg_I.intb (lo := 0) (hi := 1600) I_18 sX_209 (by decide +kernel) f_y_22
      refine lv_if_ne (tgt := 41) hx hb dX6_readSeam_36 (by decide) (fun c_23 => ?_) (fun c_23 => ?_)
      · have jc_23 := dk_neqc (k := 0) (by decide +kernel) c_23
        refine lv_aload_n hx hb dX6_readSeam_41 rfl (lv_at hl 1 rfl) ?_
        obtain ⟨d_24, hk_d_24, f_d_24⟩ := dg_I.one (i := 209) (k := 3) (d := 0) I sX_209 (by decide +kernel)
        have hk_d_24 : rX d_24 := hk_d_24
        refine dg_get (C := RX6) (T := TX6) (N := 8) hx hb hts (fun w h => bw_mem (wU_X6 w h)) hown K hP sX_209 rfl 3 (by decide) (hts _ (bw_mem wB_698)) (fun _ h9 => h9) (v := .ref (o + d_24)) (((m_18.1 209 3 _ sX_209 (by decide)).trans ((m_11.1 209 3 _ sX_209 (by decide)).trans ((m_4.1 209 3 _ sX_209 (by decide)).trans (m_1.1 209 3 _ sX_209 (by decide))))).trans f_d_24) dX6_readSeam_42 ?_
        refine lv_iload_n hx hb dX6_readSeam_45 rfl (lv_at hl 0 rfl) ?_
        refine dg_put (ci := 2) (v := .int y_7) (ty := tyX2 0) (C := RX2) (T := TX2) (N := 19) hx hb hts (fun w h => bw_mem (wU_X2 w h)) tyX2 tyX2_ok nmX2 hown K hP hS hA1 (rX_0 d_24 hk_d_24) rfl 0 (by decide) (hts _ (bw_mem wB_706)) (fun _ h9 => h9) rfl (by decide +kernel) rfl rfl dX6_readSeam_46 (fun S_25 e_25 H locs hP hS => ?_)
        have I_25 := dg_I.uFi (lo := 0) (hi := 7) I_18 e_25 (rX_0 d_24 hk_d_24) (by decide +kernel) (show 0 ≤ (y_7).toInt ∧ (y_7).toInt ≤ 7 from (by omega))
        have M_25 := dg_sm.uF M_18 e_25 (rX_0 d_24 hk_d_24) (by decide)
        refine lv_aload_n hx hb dX6_readSeam_49 rfl (lv_at hl 1 rfl) ?_
        refine dg_get (C := RX6) (T := TX6) (N := 8) hx hb hts (fun w h => bw_mem (wU_X6 w h)) hown K hP sX_209 rfl 3 (by decide) (hts _ (bw_mem wB_698)) (fun _ h9 => h9) (v := .ref (o + d_24)) (((dg_uF_ne e_25 (fun z => absurd z.2 (by decide))).trans ((m_18.1 209 3 _ sX_209 (by decide)).trans ((m_11.1 209 3 _ sX_209 (by decide)).trans ((m_4.1 209 3 _ sX_209 (by decide)).trans (m_1.1 209 3 _ sX_209 (by decide)))))).trans f_d_24) dX6_readSeam_50 ?_
        refine lv_aload_n hx hb dX6_readSeam_53 rfl (lv_at hl 1 rfl) ?_
        refine dg_get (C := RX6) (T := TX6) (N := 8) hx hb hts (fun w h => bw_mem (wU_X6 w h)) hown K hP sX_209 rfl 5 (by decide) (hts _ (bw_mem wB_700)) (fun _ h9 => h9) (v := .int y_21) ((dg_uF_ne e_25 (fun z => absurd z.2 (by decide))).trans f_y_21) dX6_readSeam_54 ?_
        refine dg_put (ci := 2) (v := .int y_21) (ty := tyX2 1) (C := RX2) (T := TX2) (N := 19) hx hb hts (fun w h => bw_mem (wU_X2 w h)) tyX2 tyX2_ok nmX2 hown K hP hS hA1 (rX_0 d_24 hk_d_24) rfl 1 (by decide) (hts _ (bw_mem wB_711)) (fun _ h9 => h9) rfl (by decide +kernel) rfl rfl dX6_readSeam_57 (fun S_26 e_26 H locs hP hS => ?_)
        have I_26 := dg_I.uFi (lo := 0) (hi := 7) I_25 e_26 (rX_0 d_24 hk_d_24) (by decide +kernel) (show 0 ≤ (y_21).toInt ∧ (y_21).toInt ≤ 7 from (by omega))
        have M_26 := dg_sm.uF M_25 e_26 (rX_0 d_24 hk_d_24) (by decide)
        refine lv_aload_n hx hb dX6_readSeam_60 rfl (lv_at hl 1 rfl) ?_
        refine dg_get (C := RX6) (T := TX6) (N := 8) hx hb hts (fun w h => bw_mem (wU_X6 w h)) hown K hP sX_209 rfl 3 (by decide) (hts _ (bw_mem wB_698)) (fun _ h9 => h9) (v := .ref (o + d_24)) (((dg_uF_ne e_26 (fun z => absurd z.2 (by decide))).trans ((dg_uF_ne e_25 (fun z => absurd z.2 (by decide))).trans ((m_18.1 209 3 _ sX_209 (by decide)).trans ((m_11.1 209 3 _ sX_209 (by decide)).trans ((m_4.1 209 3 _ sX_209 (by decide)).trans (m_1.1 209 3 _ sX_209 (by decide))))))).trans f_d_24) dX6_readSeam_61 ?_
        refine lv_aload_n hx hb dX6_readSeam_64 rfl (lv_at hl 1 rfl) ?_
        refine dg_get (C := RX6) (T := TX6) (N := 8) hx hb hts (fun w h => bw_mem (wU_X6 w h)) hown K hP sX_209 rfl 3 (by decide) (hts _ (bw_mem wB_698)) (fun _ h9 => h9) (v := .ref (o + d_24)) (((dg_uF_ne e_26 (fun z => absurd z.2 (by decide))).trans ((dg_uF_ne e_25 (fun z => absurd z.2 (by decide))).trans ((m_18.1 209 3 _ sX_209 (by decide)).trans ((m_11.1 209 3 _ sX_209 (by decide)).trans ((m_4.1 209 3 _ sX_209 (by decide)).trans (m_1.1 209 3 _ sX_209 (by decide))))))).trans f_d_24) dX6_readSeam_65 ?_
        refine lv_iconst (v := 0) hx hb dX6_readSeam_68 (by decide +kernel) ?_
        refine lv_iconst (v := 0) hx hb dX6_readSeam_69 (by decide +kernel) ?_
        refine dg_calli hS hA1 hA (va_runV (As := [.int 0, .int 0]) (rest := [.ref (o + d_24)]) F (c_g_placeOf l g D o S_26 d_24 hk_d_24 0 0 y_7 ((dg_uF_ne e_26 (fun z => absurd z.2 (by decide))).trans (dg_uF_at e_25)) (by omega) y_21 (dg_uF_at e_26) (by omega) I_26 H.size) (cwV 2 hts (bw_V wB_712 wB_260 wB_261 wB_12 wB_258) rfl rfl rfl (by decide +kernel) ⟨Nat.le_of_ble_eq_true rfl, Nat.le_of_ble_eq_true rfl⟩) (dg_preV (rX_0 d_24 hk_d_24) rfl K ST hP hS hA1 hA) rfl rfl hl.1 rfl (lv_room (Nat.le_of_ble_eq_true rfl)) dX6_readSeam_70 ⟨Nat.le_of_ble_eq_true rfl, Nat.le_of_ble_eq_true rfl⟩) (fun x_27 S_28 hw_28 H locs hP hS => ?_)
        rw [hw_28.1] at hP
        obtain ⟨hq_28, w_28_0, w_28_1, -⟩ := hw_28
        have hz_29 : (0 : Int32).toInt = 0 := by decide +kernel
        have hz_30 : (0 : Int32).toInt = 0 := by decide +kernel
        have w_28_0 : ((-1) ≤ (x_27).toInt ∧ (x_27).toInt ≤ 62) ∧ ((x_27).toInt ≤ (-1) ∨ 8 ≤ (x_27).toInt) := w_28_0
        have w_28_1 : (0 ≤ ((0 : Int32)).toInt ∧ ((0 : Int32)).toInt < (y_7).toInt ∧ 0 ≤ ((0 : Int32)).toInt ∧ ((0 : Int32)).toInt < (y_21).toInt) → 8 ≤ (x_27).toInt := w_28_1
        refine dg_put (ci := 2) (v := .int x_27) (ty := tyX2 2) (C := RX2) (T := TX2) (N := 19) hx hb hts (fun w h => bw_mem (wU_X2 w h)) tyX2 tyX2_ok nmX2 hown K hP hS hA1 (rX_0 d_24 hk_d_24) rfl 2 (by decide) (hts _ (bw_mem wB_718)) (fun _ h9 => h9) rfl (by decide +kernel) rfl rfl dX6_readSeam_73 (fun S_31 e_31 H locs hP hS => ?_)
        have I_31 := dg_I.uFi (lo := (-1)) (hi := 63) I_26 e_31 (rX_0 d_24 hk_d_24) (by decide +kernel) (show (-1) ≤ (x_27).toInt ∧ (x_27).toInt ≤ 63 from (by omega))
        have M_31 := dg_sm.uF M_26 e_31 (rX_0 d_24 hk_d_24) (by decide)
        have Z1_31 := Z1X.seam (Z1X.keep (Z1X.keep (Z1X.keep (Z1X.keep Z1 m_1 (by decide) (by decide) (by decide)) m_4 (by decide) (by decide) (by decide)) m_11 (by decide) (by decide) (by decide)) m_18 (by decide) (by decide) (by decide)) e_25 e_26 e_31 (by omega) (by omega)
        refine lv_iconst (v := 1) hx hb dX6_readSeam_76 (by decide +kernel) ?_
        have hz_32 : (1 : Int32).toInt = 1 := by decide +kernel
        have hz_33 : (1 : Int32).toInt = 1 := by decide +kernel
        refine W.widen (k := 0) (n := 0) (Nat.le_of_ble_eq_true rfl) (Nat.le_of_ble_eq_true rfl) ?_
        exact dg_iret hx hb hr hlocks (by decide +kernel) hP hS ⟨I_31, M_31, (by decide +kernel), ⟨y_22, (((dg_uF_ne e_31 (fun z => absurd z.2 (by decide))).trans ((dg_uF_ne e_26 (fun z => absurd z.2 (by decide))).trans (dg_uF_ne e_25 (fun z => absurd z.2 (by decide))))).trans f_y_22), (by omega)⟩, Z1_31, trivial⟩ dX6_readSeam_77
      · have jc_23 := dk_eqc (k := 0) (by decide +kernel) c_23
        refine lv_iconst (v := 0) hx hb dX6_readSeam_39 (by decide +kernel) ?_
        have hz_34 : (0 : Int32).toInt = 0 := by decide +kernel
        have hz_35 : (0 : Int32).toInt = 0 := by decide +kernel
        refine W.widen (k := 0) (n := 0) (Nat.le_of_ble_eq_true rfl) (Nat.le_of_ble_eq_true rfl) ?_
        exact dg_iret hx hb hr hlocks (by decide +kernel) hP hS ⟨I_18, M_18, (by decide +kernel), ⟨y_22, f_y_22, (by omega)⟩, (Z1X.keep (Z1X.keep (Z1X.keep (Z1X.keep Z1 m_1 (by decide) (by decide) (by decide)) m_4 (by decide) (by decide) (by decide)) m_11 (by decide) (by decide) (by decide)) m_18 (by decide) (by decide) (by decide)), trivial⟩ dX6_readSeam_40
  · have jc_9 := dk_eqc (k := 0) (by decide +kernel) c_9
    refine lv_iconst (v := 0) hx hb dX6_readSeam_14 (by decide +kernel) ?_
    have hz_36 : (0 : Int32).toInt = 0 := by decide +kernel
    have hz_37 : (0 : Int32).toInt = 0 := by decide +kernel
    refine W.widen (k := 0) (n := 0) (Nat.le_of_ble_eq_true rfl) (Nat.le_of_ble_eq_true rfl) ?_
    exact dg_iret hx hb hr hlocks (by decide +kernel) hP hS ⟨I_4, M_4, (by decide +kernel), ⟨y_8, f_y_8, (by omega)⟩, (Z1X.keep (Z1X.keep Z1 m_1 (by decide) (by decide) (by decide)) m_4 (by decide) (by decide) (by decide)), trivial⟩ dX6_readSeam_15
set_option maxHeartbeats 8000000 in
set_option maxRecDepth 100000 in
theorem c_rd_readShaft (l : Launch) (g : Nat → ClassId) (D : va_G) (o : Nat) (S : dg_S) (en : Int32) (n0 : Int32) (f_n0 : S.1 209 4 = .int n0) (b_n0 : 0 ≤ (n0).toInt ∧ (n0).toInt ≤ 1600) (ke : Int32) (f_ke : S.2.1 211 (en : Int32).toNatClampNeg = ke) (b_ke : 0 ≤ (ke).toInt ∧ (ke).toInt ≤ 0) (hne : (n0).toInt ≤ (en).toInt ∧ (en).toInt ≤ 1600 ∧ 0 ≤ (en).toInt) (Z1 : Z1X S) (I : CX o S) (sz : Nat) : Met l yX6_readShaft (bw yX6_readShaft cX6_readShaft 1 (some .boolean)) ({ frames := 3, cells := 0, slots := 0, locals := 76 } : Room) (dk_Pc g D (dg_w g shX o rfX S) sz [.ref (o + 209)]) (va_Qi (fun (r : Int32) S' => CX o S' ∧ dg_sm shX [(19, 2), (31, 0), (31, 1), (31, 4), (31, 5)] [] S S' ∧ (0 ≤ (r).toInt ∧ (r).toInt ≤ 1) ∧ (∃ y9 : Int32, S'.1 209 4 = .int y9 ∧ ((y9).toInt ≤ (en).toInt)) ∧ Z1X S' ∧ True) (dg_B g D shX o rfX) (dg_A o shX.length sz)) 0 0 (dg_A o shX.length sz) := by
  refine dg_met (cc := cX6_readShaft) (maxL := 1) (ret := (some .boolean)) (by decide) rfl (Nat.le_of_ble_eq_true rfl) ?_
  intro p e s m args below meth c A hAe harg hx hb hr hml hts hown hlocks hin hP K hS hA1 hA ST hsz ls hl
  rw [← hAe]
  have F : CallFix p m c cX6_readShaft 1 s args (bw yX6_readShaft cX6_readShaft 1 (some .boolean)) RX6 := ⟨hx, hb, hml, hown, hts⟩
  have hl : lv_has ls 1 [(0, .ref (o + 209))] := hl
  have M_0 : dg_sm shX [(19, 2), (31, 0), (31, 1), (31, 4), (31, 5)] [] S S := dg_sm.rf
  refine lv_aload_n hx hb dX6_readShaft_0 rfl (lv_at hl 0 rfl) ?_
  refine dg_callv hS hA1 hA (va_runV (As := []) (rest := []) F (c_rd_pass l g D o S en n0 f_n0 (by omega) ke f_ke (by omega) (by omega) I s.heap.size) (cwV 0 hts (bw_V wB_686 wB_687 wB_688 wB_684 wB_685) rfl rfl rfl (by decide +kernel) ⟨Nat.le_of_ble_eq_true rfl, Nat.le_of_ble_eq_true rfl⟩) (dg_preV sX_209 rfl K ST hP hS hA1 hA) rfl rfl hl.1 rfl (lv_room (Nat.le_of_ble_eq_true rfl)) dX6_readShaft_1 ⟨Nat.le_of_ble_eq_true rfl, Nat.le_of_ble_eq_true rfl⟩) (fun S_1 hw_1 H locs hP hS => ?_)
  obtain ⟨I_1, m_1, w_1_0, -⟩ := hw_1
  have M_1 := dg_sm.tr M_0 m_1 (by decide) (by decide)
  obtain ⟨y_2, f_y_2, w_1_0⟩ := w_1_0
  have w_1_0 : (y_2).toInt ≤ (en).toInt := w_1_0
  have b_y_2 : 0 ≤ (y_2).toInt ∧ (y_2).toInt ≤ 1600 := dg_I.intb (lo := 0) (hi := 1600) I_1 sX_209 (by decide +kernel) f_y_2
  refine lv_aload_n hx hb dX6_readShaft_4 rfl (lv_at hl 0 rfl) ?_
  refine lv_iconst (v := 0) hx hb dX6_readShaft_5 (by decide +kernel) ?_
  refine lv_aload_n hx hb dX6_readShaft_6 rfl (lv_at hl 0 rfl) ?_
  obtain ⟨d_3, hk_d_3, f_d_3⟩ := dg_I.one (i := 209) (k := 3) (d := 0) I sX_209 (by decide +kernel)
  have hk_d_3 : rX d_3 := hk_d_3
  refine dg_get (C := RX6) (T := TX6) (N := 8) hx hb hts (fun w h => bw_mem (wU_X6 w h)) hown K hP sX_209 rfl 3 (by decide) (hts _ (bw_mem wB_698)) (fun _ h9 => h9) (v := .ref (o + d_3)) ((m_1.1 209 3 _ sX_209 (by decide)).trans f_d_3) dX6_readShaft_7 ?_
  obtain ⟨x_4, f_x_4, b_x_4⟩ := dg_I.int (i := d_3) (k := 0) (lo := 0) (hi := 7) I (rX_0 d_3 hk_d_3) (by decide +kernel)
  refine dg_get (C := RX2) (T := TX2) (N := 19) hx hb hts (fun w h => bw_mem (wU_X2 w h)) hown K hP (rX_0 d_3 hk_d_3) rfl 0 (by decide) (hts _ (bw_mem wB_706)) (fun _ h9 => h9) (v := .int x_4) ((m_1.1 d_3 0 _ (rX_0 d_3 hk_d_3) (by decide)).trans f_x_4) dX6_readShaft_10 ?_
  refine lv_iconst (v := 1) hx hb dX6_readShaft_13 (by decide +kernel) ?_
  refine lv_isub hx hb dX6_readShaft_14 ?_
  refine lv_topi (fun x_5 ex_5 => ?_)
  have jx_5 : (x_5).toInt = (x_4).toInt - 1 := by rw [ex_5]; exact dk_subT rfl (by decide +kernel) (by omega) (by omega)
  refine dg_calli hS hA1 hA (va_runV (As := [.int 0, .int x_5]) (rest := []) F (c_rd_takeNumber l g D o S_1 0 x_5 en y_2 f_y_2 (by omega) ke ((congrFun (m_1.2 211 _ sX_211 (by decide)).1 _).trans f_ke) (by omega) (by omega) I_1 H.size) (cwV 2 hts (bw_V wB_708 wB_709 wB_710 wB_684 wB_707) rfl rfl rfl (by decide +kernel) ⟨Nat.le_of_ble_eq_true rfl, Nat.le_of_ble_eq_true rfl⟩) (dg_preV sX_209 rfl K ST hP hS hA1 hA) rfl rfl hl.1 rfl (lv_room (Nat.le_of_ble_eq_true rfl)) dX6_readShaft_15 ⟨Nat.le_of_ble_eq_true rfl, Nat.le_of_ble_eq_true rfl⟩) (fun x_6 S_7 hw_7 H locs hP hS => ?_)
  obtain ⟨I_7, m_7, w_7_0, w_7_1, w_7_2, -⟩ := hw_7
  have M_7 := dg_sm.tr M_1 m_7 (by decide) (by decide)
  have hz_8 : (0 : Int32).toInt = 0 := by decide +kernel
  have w_7_0 : 0 ≤ (x_6).toInt ∧ (x_6).toInt ≤ 1 := w_7_0
  obtain ⟨y_9, f_y_9, w_7_1⟩ := w_7_1
  have w_7_1 : (x_6).toInt = 1 → (((0 : Int32)).toInt ≤ (y_9).toInt ∧ (y_9).toInt ≤ (x_5).toInt) := w_7_1
  obtain ⟨y_10, f_y_10, w_7_2⟩ := w_7_2
  have w_7_2 : (y_10).toInt ≤ (en).toInt := w_7_2
  have b_y_10 : 0 ≤ (y_10).toInt ∧ (y_10).toInt ≤ 1600 := dg_I.intb (lo := 0) (hi := 1600) I_7 sX_209 (by decide +kernel) f_y_10
  refine lv_if_ne (tgt := 23) hx hb dX6_readShaft_18 (by decide) (fun c_11 => ?_) (fun c_11 => ?_)
  · have jc_11 := dk_neqc (k := 0) (by decide +kernel) c_11
    refine lv_aload_n hx hb dX6_readShaft_23 rfl (lv_at hl 0 rfl) ?_
    refine dg_get (C := RX6) (T := TX6) (N := 8) hx hb hts (fun w h => bw_mem (wU_X6 w h)) hown K hP sX_209 rfl 3 (by decide) (hts _ (bw_mem wB_698)) (fun _ h9 => h9) (v := .ref (o + d_3)) (((m_7.1 209 3 _ sX_209 (by decide)).trans (m_1.1 209 3 _ sX_209 (by decide))).trans f_d_3) dX6_readShaft_24 ?_
    refine lv_aload_n hx hb dX6_readShaft_27 rfl (lv_at hl 0 rfl) ?_
    refine dg_get (C := RX6) (T := TX6) (N := 8) hx hb hts (fun w h => bw_mem (wU_X6 w h)) hown K hP sX_209 rfl 3 (by decide) (hts _ (bw_mem wB_698)) (fun _ h9 => h9) (v := .ref (o + d_3)) (((m_7.1 209 3 _ sX_209 (by decide)).trans (m_1.1 209 3 _ sX_209 (by decide))).trans f_d_3) dX6_readShaft_28 ?_
    refine lv_aload_n hx hb dX6_readShaft_31 rfl (lv_at hl 0 rfl) ?_
    refine dg_get (C := RX6) (T := TX6) (N := 8) hx hb hts (fun w h => bw_mem (wU_X6 w h)) hown K hP sX_209 rfl 5 (by decide) (hts _ (bw_mem wB_700)) (fun _ h9 => h9) (v := .int y_9) f_y_9 dX6_readShaft_32 ?_
    refine lv_iconst (v := 0) hx hb dX6_readShaft_35 (by decide +kernel) ?_
    obtain ⟨x_12, f_x_12, b_x_12⟩ := dg_I.int (i := d_3) (k := 1) (lo := 0) (hi := 7) I (rX_0 d_3 hk_d_3) (by decide +kernel)
    refine dg_calli hS hA1 hA (va_runV (As := [.int y_9, .int 0]) (rest := [.ref (o + d_3)]) F (c_g_placeOf l g D o S_7 d_3 hk_d_3 y_9 0 x_4 (((m_7.1 d_3 0 _ (rX_0 d_3 hk_d_3) (by decide)).trans (m_1.1 d_3 0 _ (rX_0 d_3 hk_d_3) (by decide))).trans f_x_4) (by omega) x_12 (((m_7.1 d_3 1 _ (rX_0 d_3 hk_d_3) (by decide)).trans (m_1.1 d_3 1 _ (rX_0 d_3 hk_d_3) (by decide))).trans f_x_12) (by omega) I_7 H.size) (cwV 2 hts (bw_V wB_712 wB_260 wB_261 wB_12 wB_258) rfl rfl rfl (by decide +kernel) ⟨Nat.le_of_ble_eq_true rfl, Nat.le_of_ble_eq_true rfl⟩) (dg_preV (rX_0 d_3 hk_d_3) rfl K ST hP hS hA1 hA) rfl rfl hl.1 rfl (lv_room (Nat.le_of_ble_eq_true rfl)) dX6_readShaft_36 ⟨Nat.le_of_ble_eq_true rfl, Nat.le_of_ble_eq_true rfl⟩) (fun x_13 S_14 hw_14 H locs hP hS => ?_)
    rw [hw_14.1] at hP
    obtain ⟨hq_14, w_14_0, w_14_1, -⟩ := hw_14
    have hz_15 : (0 : Int32).toInt = 0 := by decide +kernel
    have w_14_0 : ((-1) ≤ (x_13).toInt ∧ (x_13).toInt ≤ 62) ∧ ((x_13).toInt ≤ (-1) ∨ 8 ≤ (x_13).toInt) := w_14_0
    have w_14_1 : (0 ≤ (y_9).toInt ∧ (y_9).toInt < (x_4).toInt ∧ 0 ≤ ((0 : Int32)).toInt ∧ ((0 : Int32)).toInt < (x_12).toInt) → 8 ≤ (x_13).toInt := w_14_1
    obtain ⟨x_16, f_x_16, b_x_16⟩ := dg_I.int (i := d_3) (k := 2) (lo := (-1)) (hi := 63) I_7 (rX_0 d_3 hk_d_3) (by decide +kernel)
    have hz9 := ((Z1X.keep (Z1X.keep Z1 m_1 (by decide) (by decide) (by decide)) m_7 (by decide) (by decide) (by decide)) d_3 hk_d_3 x_4 x_16 x_12 (((m_7.1 d_3 0 _ (rX_0 d_3 hk_d_3) (by decide)).trans (m_1.1 d_3 0 _ (rX_0 d_3 hk_d_3) (by decide))).trans f_x_4) f_x_16 (((m_7.1 d_3 1 _ (rX_0 d_3 hk_d_3) (by decide)).trans (m_1.1 d_3 1 _ (rX_0 d_3 hk_d_3) (by decide))).trans f_x_12)) (by omega)
    refine dg_put (ci := 2) (v := .int x_13) (ty := tyX2 2) (C := RX2) (T := TX2) (N := 19) hx hb hts (fun w h => bw_mem (wU_X2 w h)) tyX2 tyX2_ok nmX2 hown K hP hS hA1 (rX_0 d_3 hk_d_3) rfl 2 (by decide) (hts _ (bw_mem wB_718)) (fun _ h9 => h9) rfl (by decide +kernel) rfl rfl dX6_readShaft_39 (fun S_17 e_17 H locs hP hS => ?_)
    have I_17 := dg_I.uFi (lo := (-1)) (hi := 63) I_7 e_17 (rX_0 d_3 hk_d_3) (by decide +kernel) (show (-1) ≤ (x_13).toInt ∧ (x_13).toInt ≤ 63 from (by omega))
    have M_17 := dg_sm.uF M_7 e_17 (rX_0 d_3 hk_d_3) (by decide)
    have Z1_17 := Z1X.shaft (Z1X.keep (Z1X.keep Z1 m_1 (by decide) (by decide) (by decide)) m_7 (by decide) (by decide) (by decide)) e_17 (by omega) (fun y hy => by rw [(((m_7.1 d_3 1 _ (rX_0 d_3 hk_d_3) (by decide)).trans (m_1.1 d_3 1 _ (rX_0 d_3 hk_d_3) (by decide))).trans f_x_12)] at hy; cases hy; omega)
    refine lv_iconst (v := 1) hx hb dX6_readShaft_42 (by decide +kernel) ?_
    have hz_18 : (1 : Int32).toInt = 1 := by decide +kernel
    have hz_19 : (1 : Int32).toInt = 1 := by decide +kernel
    refine W.widen (k := 0) (n := 0) (Nat.le_of_ble_eq_true rfl) (Nat.le_of_ble_eq_true rfl) ?_
    exact dg_iret hx hb hr hlocks (by decide +kernel) hP hS ⟨I_17, M_17, (by decide +kernel), ⟨y_10, ((dg_uF_ne e_17 (fun z => absurd z.2 (by decide))).trans f_y_10), (by omega)⟩, Z1_17, trivial⟩ dX6_readShaft_43
  · have jc_11 := dk_eqc (k := 0) (by decide +kernel) c_11
    refine lv_iconst (v := 0) hx hb dX6_readShaft_21 (by decide +kernel) ?_
    have hz_20 : (0 : Int32).toInt = 0 := by decide +kernel
    have hz_21 : (0 : Int32).toInt = 0 := by decide +kernel
    refine W.widen (k := 0) (n := 0) (Nat.le_of_ble_eq_true rfl) (Nat.le_of_ble_eq_true rfl) ?_
    exact dg_iret hx hb hr hlocks (by decide +kernel) hP hS ⟨I_7, M_7, (by decide +kernel), ⟨y_10, f_y_10, (by omega)⟩, (Z1X.keep (Z1X.keep Z1 m_1 (by decide) (by decide) (by decide)) m_7 (by decide) (by decide) (by decide)), trivial⟩ dX6_readShaft_22
set_option maxHeartbeats 8000000 in
set_option maxRecDepth 100000 in
theorem c_rd_readReach (l : Launch) (g : Nat → ClassId) (D : va_G) (o : Nat) (S : dg_S) (en : Int32) (n0 : Int32) (f_n0 : S.1 209 4 = .int n0) (b_n0 : 0 ≤ (n0).toInt ∧ (n0).toInt ≤ 1600) (ke : Int32) (f_ke : S.2.1 211 (en : Int32).toNatClampNeg = ke) (b_ke : 0 ≤ (ke).toInt ∧ (ke).toInt ≤ 0) (hne : (n0).toInt ≤ (en).toInt ∧ (en).toInt ≤ 1600 ∧ 0 ≤ (en).toInt) (I : CX o S) (sz : Nat) : Met l yX6_readReach (bw yX6_readReach cX6_readReach 1 (some .boolean)) ({ frames := 3, cells := 0, slots := 0, locals := 76 } : Room) (dk_Pc g D (dg_w g shX o rfX S) sz [.ref (o + 209)]) (va_Qi (fun (r : Int32) S' => CX o S' ∧ dg_sm shX [(19, 3), (31, 0), (31, 1), (31, 4), (31, 5)] [] S S' ∧ (0 ≤ (r).toInt ∧ (r).toInt ≤ 1) ∧ (∃ y9 : Int32, S'.1 209 4 = .int y9 ∧ ((y9).toInt ≤ (en).toInt)) ∧ True) (dg_B g D shX o rfX) (dg_A o shX.length sz)) 0 0 (dg_A o shX.length sz) := by
  refine dg_met (cc := cX6_readReach) (maxL := 1) (ret := (some .boolean)) (by decide) rfl (Nat.le_of_ble_eq_true rfl) ?_
  intro p e s m args below meth c A hAe harg hx hb hr hml hts hown hlocks hin hP K hS hA1 hA ST hsz ls hl
  rw [← hAe]
  have F : CallFix p m c cX6_readReach 1 s args (bw yX6_readReach cX6_readReach 1 (some .boolean)) RX6 := ⟨hx, hb, hml, hown, hts⟩
  have hl : lv_has ls 1 [(0, .ref (o + 209))] := hl
  have M_0 : dg_sm shX [(19, 3), (31, 0), (31, 1), (31, 4), (31, 5)] [] S S := dg_sm.rf
  refine lv_aload_n hx hb dX6_readReach_0 rfl (lv_at hl 0 rfl) ?_
  refine dg_callv hS hA1 hA (va_runV (As := []) (rest := []) F (c_rd_pass l g D o S en n0 f_n0 (by omega) ke f_ke (by omega) (by omega) I s.heap.size) (cwV 0 hts (bw_V wB_686 wB_687 wB_688 wB_684 wB_685) rfl rfl rfl (by decide +kernel) ⟨Nat.le_of_ble_eq_true rfl, Nat.le_of_ble_eq_true rfl⟩) (dg_preV sX_209 rfl K ST hP hS hA1 hA) rfl rfl hl.1 rfl (lv_room (Nat.le_of_ble_eq_true rfl)) dX6_readReach_1 ⟨Nat.le_of_ble_eq_true rfl, Nat.le_of_ble_eq_true rfl⟩) (fun S_1 hw_1 H locs hP hS => ?_)
  obtain ⟨I_1, m_1, w_1_0, -⟩ := hw_1
  have M_1 := dg_sm.tr M_0 m_1 (by decide) (by decide)
  obtain ⟨y_2, f_y_2, w_1_0⟩ := w_1_0
  have w_1_0 : (y_2).toInt ≤ (en).toInt := w_1_0
  have b_y_2 : 0 ≤ (y_2).toInt ∧ (y_2).toInt ≤ 1600 := dg_I.intb (lo := 0) (hi := 1600) I_1 sX_209 (by decide +kernel) f_y_2
  refine lv_aload_n hx hb dX6_readReach_4 rfl (lv_at hl 0 rfl) ?_
  refine lv_iconst (v := 0) hx hb dX6_readReach_5 (by decide +kernel) ?_
  refine lv_bipush (v := 20) hx hb dX6_readReach_6 (by decide +kernel) ?_
  refine dg_calli hS hA1 hA (va_runV (As := [.int 0, .int 20]) (rest := []) F (c_rd_takeNumber l g D o S_1 0 20 en y_2 f_y_2 (by omega) ke ((congrFun (m_1.2 211 _ sX_211 (by decide)).1 _).trans f_ke) (by omega) (by omega) I_1 H.size) (cwV 2 hts (bw_V wB_708 wB_709 wB_710 wB_684 wB_707) rfl rfl rfl (by decide +kernel) ⟨Nat.le_of_ble_eq_true rfl, Nat.le_of_ble_eq_true rfl⟩) (dg_preV sX_209 rfl K ST hP hS hA1 hA) rfl rfl hl.1 rfl (lv_room (Nat.le_of_ble_eq_true rfl)) dX6_readReach_8 ⟨Nat.le_of_ble_eq_true rfl, Nat.le_of_ble_eq_true rfl⟩) (fun x_3 S_4 hw_4 H locs hP hS => ?_)
  obtain ⟨I_4, m_4, w_4_0, w_4_1, w_4_2, -⟩ := hw_4
  have M_4 := dg_sm.tr M_1 m_4 (by decide) (by decide)
  have hz_5 : (0 : Int32).toInt = 0 := by decide +kernel
  have hz_6 : (20 : Int32).toInt = 20 := by decide +kernel
  have w_4_0 : 0 ≤ (x_3).toInt ∧ (x_3).toInt ≤ 1 := w_4_0
  obtain ⟨y_7, f_y_7, w_4_1⟩ := w_4_1
  have w_4_1 : (x_3).toInt = 1 → (((0 : Int32)).toInt ≤ (y_7).toInt ∧ (y_7).toInt ≤ ((20 : Int32)).toInt) := w_4_1
  obtain ⟨y_8, f_y_8, w_4_2⟩ := w_4_2
  have w_4_2 : (y_8).toInt ≤ (en).toInt := w_4_2
  have b_y_8 : 0 ≤ (y_8).toInt ∧ (y_8).toInt ≤ 1600 := dg_I.intb (lo := 0) (hi := 1600) I_4 sX_209 (by decide +kernel) f_y_8
  refine lv_if_ne (tgt := 16) hx hb dX6_readReach_11 (by decide) (fun c_9 => ?_) (fun c_9 => ?_)
  · have jc_9 := dk_neqc (k := 0) (by decide +kernel) c_9
    refine lv_aload_n hx hb dX6_readReach_16 rfl (lv_at hl 0 rfl) ?_
    obtain ⟨d_10, hk_d_10, f_d_10⟩ := dg_I.one (i := 209) (k := 3) (d := 0) I sX_209 (by decide +kernel)
    have hk_d_10 : rX d_10 := hk_d_10
    refine dg_get (C := RX6) (T := TX6) (N := 8) hx hb hts (fun w h => bw_mem (wU_X6 w h)) hown K hP sX_209 rfl 3 (by decide) (hts _ (bw_mem wB_698)) (fun _ h9 => h9) (v := .ref (o + d_10)) (((m_4.1 209 3 _ sX_209 (by decide)).trans (m_1.1 209 3 _ sX_209 (by decide))).trans f_d_10) dX6_readReach_17 ?_
    refine lv_aload_n hx hb dX6_readReach_20 rfl (lv_at hl 0 rfl) ?_
    refine dg_get (C := RX6) (T := TX6) (N := 8) hx hb hts (fun w h => bw_mem (wU_X6 w h)) hown K hP sX_209 rfl 5 (by decide) (hts _ (bw_mem wB_700)) (fun _ h9 => h9) (v := .int y_7) f_y_7 dX6_readReach_21 ?_
    refine dg_put (ci := 2) (v := .int y_7) (ty := tyX2 3) (C := RX2) (T := TX2) (N := 19) hx hb hts (fun w h => bw_mem (wU_X2 w h)) tyX2 tyX2_ok nmX2 hown K hP hS hA1 (rX_0 d_10 hk_d_10) rfl 3 (by decide) (hts _ (bw_mem wB_719)) (fun _ h9 => h9) rfl (by decide +kernel) rfl rfl dX6_readReach_24 (fun S_11 e_11 H locs hP hS => ?_)
    have I_11 := dg_I.uFi (lo := (-2147483648)) (hi := 2147483647) I_4 e_11 (rX_0 d_10 hk_d_10) (by decide +kernel) (show (-2147483648) ≤ (y_7).toInt ∧ (y_7).toInt ≤ 2147483647 from (dk_full _))
    have M_11 := dg_sm.uF M_4 e_11 (rX_0 d_10 hk_d_10) (by decide)
    refine lv_iconst (v := 1) hx hb dX6_readReach_27 (by decide +kernel) ?_
    have hz_12 : (1 : Int32).toInt = 1 := by decide +kernel
    have hz_13 : (1 : Int32).toInt = 1 := by decide +kernel
    refine W.widen (k := 0) (n := 0) (Nat.le_of_ble_eq_true rfl) (Nat.le_of_ble_eq_true rfl) ?_
    exact dg_iret hx hb hr hlocks (by decide +kernel) hP hS ⟨I_11, M_11, (by decide +kernel), ⟨y_8, ((dg_uF_ne e_11 (fun z => absurd z.2 (by decide))).trans f_y_8), (by omega)⟩, trivial⟩ dX6_readReach_28
  · have jc_9 := dk_eqc (k := 0) (by decide +kernel) c_9
    refine lv_iconst (v := 0) hx hb dX6_readReach_14 (by decide +kernel) ?_
    have hz_14 : (0 : Int32).toInt = 0 := by decide +kernel
    have hz_15 : (0 : Int32).toInt = 0 := by decide +kernel
    refine W.widen (k := 0) (n := 0) (Nat.le_of_ble_eq_true rfl) (Nat.le_of_ble_eq_true rfl) ?_
    exact dg_iret hx hb hr hlocks (by decide +kernel) hP hS ⟨I_4, M_4, (by decide +kernel), ⟨y_8, f_y_8, (by omega)⟩, trivial⟩ dX6_readReach_15
set_option maxHeartbeats 8000000 in
set_option maxRecDepth 100000 in
theorem c_rd_readQuake (l : Launch) (g : Nat → ClassId) (D : va_G) (o : Nat) (S : dg_S) (en : Int32) (n0 : Int32) (f_n0 : S.1 209 4 = .int n0) (b_n0 : 0 ≤ (n0).toInt ∧ (n0).toInt ≤ 1600) (ke : Int32) (f_ke : S.2.1 211 (en : Int32).toNatClampNeg = ke) (b_ke : 0 ≤ (ke).toInt ∧ (ke).toInt ≤ 0) (hne : (n0).toInt ≤ (en).toInt ∧ (en).toInt ≤ 1600 ∧ 0 ≤ (en).toInt) (I : CX o S) (sz : Nat) : Met l yX6_readQuake (bw yX6_readQuake cX6_readQuake 1 (some .boolean)) ({ frames := 3, cells := 0, slots := 0, locals := 76 } : Room) (dk_Pc g D (dg_w g shX o rfX S) sz [.ref (o + 209)]) (va_Qi (fun (r : Int32) S' => CX o S' ∧ dg_sm shX [(19, 4), (31, 0), (31, 1), (31, 4), (31, 5)] [] S S' ∧ (0 ≤ (r).toInt ∧ (r).toInt ≤ 1) ∧ (∃ y9 : Int32, S'.1 209 4 = .int y9 ∧ ((y9).toInt ≤ (en).toInt)) ∧ True) (dg_B g D shX o rfX) (dg_A o shX.length sz)) 0 0 (dg_A o shX.length sz) := by
  refine dg_met (cc := cX6_readQuake) (maxL := 1) (ret := (some .boolean)) (by decide) rfl (Nat.le_of_ble_eq_true rfl) ?_
  intro p e s m args below meth c A hAe harg hx hb hr hml hts hown hlocks hin hP K hS hA1 hA ST hsz ls hl
  rw [← hAe]
  have F : CallFix p m c cX6_readQuake 1 s args (bw yX6_readQuake cX6_readQuake 1 (some .boolean)) RX6 := ⟨hx, hb, hml, hown, hts⟩
  have hl : lv_has ls 1 [(0, .ref (o + 209))] := hl
  have M_0 : dg_sm shX [(19, 4), (31, 0), (31, 1), (31, 4), (31, 5)] [] S S := dg_sm.rf
  refine lv_aload_n hx hb dX6_readQuake_0 rfl (lv_at hl 0 rfl) ?_
  refine dg_callv hS hA1 hA (va_runV (As := []) (rest := []) F (c_rd_pass l g D o S en n0 f_n0 (by omega) ke f_ke (by omega) (by omega) I s.heap.size) (cwV 0 hts (bw_V wB_686 wB_687 wB_688 wB_684 wB_685) rfl rfl rfl (by decide +kernel) ⟨Nat.le_of_ble_eq_true rfl, Nat.le_of_ble_eq_true rfl⟩) (dg_preV sX_209 rfl K ST hP hS hA1 hA) rfl rfl hl.1 rfl (lv_room (Nat.le_of_ble_eq_true rfl)) dX6_readQuake_1 ⟨Nat.le_of_ble_eq_true rfl, Nat.le_of_ble_eq_true rfl⟩) (fun S_1 hw_1 H locs hP hS => ?_)
  obtain ⟨I_1, m_1, w_1_0, -⟩ := hw_1
  have M_1 := dg_sm.tr M_0 m_1 (by decide) (by decide)
  obtain ⟨y_2, f_y_2, w_1_0⟩ := w_1_0
  have w_1_0 : (y_2).toInt ≤ (en).toInt := w_1_0
  have b_y_2 : 0 ≤ (y_2).toInt ∧ (y_2).toInt ≤ 1600 := dg_I.intb (lo := 0) (hi := 1600) I_1 sX_209 (by decide +kernel) f_y_2
  refine lv_aload_n hx hb dX6_readQuake_4 rfl (lv_at hl 0 rfl) ?_
  refine lv_iconst (v := 0) hx hb dX6_readQuake_5 (by decide +kernel) ?_
  refine lv_bipush (v := 100) hx hb dX6_readQuake_6 (by decide +kernel) ?_
  refine dg_calli hS hA1 hA (va_runV (As := [.int 0, .int 100]) (rest := []) F (c_rd_takeNumber l g D o S_1 0 100 en y_2 f_y_2 (by omega) ke ((congrFun (m_1.2 211 _ sX_211 (by decide)).1 _).trans f_ke) (by omega) (by omega) I_1 H.size) (cwV 2 hts (bw_V wB_708 wB_709 wB_710 wB_684 wB_707) rfl rfl rfl (by decide +kernel) ⟨Nat.le_of_ble_eq_true rfl, Nat.le_of_ble_eq_true rfl⟩) (dg_preV sX_209 rfl K ST hP hS hA1 hA) rfl rfl hl.1 rfl (lv_room (Nat.le_of_ble_eq_true rfl)) dX6_readQuake_8 ⟨Nat.le_of_ble_eq_true rfl, Nat.le_of_ble_eq_true rfl⟩) (fun x_3 S_4 hw_4 H locs hP hS => ?_)
  obtain ⟨I_4, m_4, w_4_0, w_4_1, w_4_2, -⟩ := hw_4
  have M_4 := dg_sm.tr M_1 m_4 (by decide) (by decide)
  have hz_5 : (0 : Int32).toInt = 0 := by decide +kernel
  have hz_6 : (100 : Int32).toInt = 100 := by decide +kernel
  have w_4_0 : 0 ≤ (x_3).toInt ∧ (x_3).toInt ≤ 1 := w_4_0
  obtain ⟨y_7, f_y_7, w_4_1⟩ := w_4_1
  have w_4_1 : (x_3).toInt = 1 → (((0 : Int32)).toInt ≤ (y_7).toInt ∧ (y_7).toInt ≤ ((100 : Int32)).toInt) := w_4_1
  obtain ⟨y_8, f_y_8, w_4_2⟩ := w_4_2
  have w_4_2 : (y_8).toInt ≤ (en).toInt := w_4_2
  have b_y_8 : 0 ≤ (y_8).toInt ∧ (y_8).toInt ≤ 1600 := dg_I.intb (lo := 0) (hi := 1600) I_4 sX_209 (by decide +kernel) f_y_8
  refine lv_if_ne (tgt := 16) hx hb dX6_readQuake_11 (by decide) (fun c_9 => ?_) (fun c_9 => ?_)
  · have jc_9 := dk_neqc (k := 0) (by decide +kernel) c_9
    refine lv_aload_n hx hb dX6_readQuake_16 rfl (lv_at hl 0 rfl) ?_
    obtain ⟨d_10, hk_d_10, f_d_10⟩ := dg_I.one (i := 209) (k := 3) (d := 0) I sX_209 (by decide +kernel)
    have hk_d_10 : rX d_10 := hk_d_10
    refine dg_get (C := RX6) (T := TX6) (N := 8) hx hb hts (fun w h => bw_mem (wU_X6 w h)) hown K hP sX_209 rfl 3 (by decide) (hts _ (bw_mem wB_698)) (fun _ h9 => h9) (v := .ref (o + d_10)) (((m_4.1 209 3 _ sX_209 (by decide)).trans (m_1.1 209 3 _ sX_209 (by decide))).trans f_d_10) dX6_readQuake_17 ?_
    refine lv_aload_n hx hb dX6_readQuake_20 rfl (lv_at hl 0 rfl) ?_
    refine dg_get (C := RX6) (T := TX6) (N := 8) hx hb hts (fun w h => bw_mem (wU_X6 w h)) hown K hP sX_209 rfl 5 (by decide) (hts _ (bw_mem wB_700)) (fun _ h9 => h9) (v := .int y_7) f_y_7 dX6_readQuake_21 ?_
    refine dg_put (ci := 2) (v := .int y_7) (ty := tyX2 4) (C := RX2) (T := TX2) (N := 19) hx hb hts (fun w h => bw_mem (wU_X2 w h)) tyX2 tyX2_ok nmX2 hown K hP hS hA1 (rX_0 d_10 hk_d_10) rfl 4 (by decide) (hts _ (bw_mem wB_720)) (fun _ h9 => h9) rfl (by decide +kernel) rfl rfl dX6_readQuake_24 (fun S_11 e_11 H locs hP hS => ?_)
    have I_11 := dg_I.uFi (lo := (-2147483648)) (hi := 2147483647) I_4 e_11 (rX_0 d_10 hk_d_10) (by decide +kernel) (show (-2147483648) ≤ (y_7).toInt ∧ (y_7).toInt ≤ 2147483647 from (dk_full _))
    have M_11 := dg_sm.uF M_4 e_11 (rX_0 d_10 hk_d_10) (by decide)
    refine lv_iconst (v := 1) hx hb dX6_readQuake_27 (by decide +kernel) ?_
    have hz_12 : (1 : Int32).toInt = 1 := by decide +kernel
    have hz_13 : (1 : Int32).toInt = 1 := by decide +kernel
    refine W.widen (k := 0) (n := 0) (Nat.le_of_ble_eq_true rfl) (Nat.le_of_ble_eq_true rfl) ?_
    exact dg_iret hx hb hr hlocks (by decide +kernel) hP hS ⟨I_11, M_11, (by decide +kernel), ⟨y_8, ((dg_uF_ne e_11 (fun z => by have h9 := sX_209; rw [z.1, (rX_0 d_10 hk_d_10)] at h9; cases h9)).trans f_y_8), (by omega)⟩, trivial⟩ dX6_readQuake_28
  · have jc_9 := dk_eqc (k := 0) (by decide +kernel) c_9
    refine lv_iconst (v := 0) hx hb dX6_readQuake_14 (by decide +kernel) ?_
    have hz_14 : (0 : Int32).toInt = 0 := by decide +kernel
    have hz_15 : (0 : Int32).toInt = 0 := by decide +kernel
    refine W.widen (k := 0) (n := 0) (Nat.le_of_ble_eq_true rfl) (Nat.le_of_ble_eq_true rfl) ?_
    exact dg_iret hx hb hr hlocks (by decide +kernel) hP hS ⟨I_4, M_4, (by decide +kernel), ⟨y_8, f_y_8, (by omega)⟩, trivial⟩ dX6_readQuake_15
set_option maxHeartbeats 8000000 in
set_option maxRecDepth 100000 in
theorem c_rd_readGrade (l : Launch) (g : Nat → ClassId) (D : va_G) (o : Nat) (S : dg_S) (en : Int32) (n0 : Int32) (f_n0 : S.1 209 4 = .int n0) (b_n0 : 0 ≤ (n0).toInt ∧ (n0).toInt ≤ 1600) (ke : Int32) (f_ke : S.2.1 211 (en : Int32).toNatClampNeg = ke) (b_ke : 0 ≤ (ke).toInt ∧ (ke).toInt ≤ 0) (hne : (n0).toInt ≤ (en).toInt ∧ (en).toInt ≤ 1600 ∧ 0 ≤ (en).toInt) (I : CX o S) (sz : Nat) : Met l yX6_readGrade (bw yX6_readGrade cX6_readGrade 2 (some .boolean)) ({ frames := 4, cells := 0, slots := 0, locals := 97 } : Room) (dk_Pc g D (dg_w g shX o rfX S) sz [.ref (o + 209)]) (va_Qi (fun (r : Int32) S' => CX o S' ∧ dg_sm shX [(31, 0), (31, 1), (31, 4), (31, 5)] [20] S S' ∧ (0 ≤ (r).toInt ∧ (r).toInt ≤ 1) ∧ (∃ y9 : Int32, S'.1 209 4 = .int y9 ∧ ((y9).toInt ≤ (en).toInt)) ∧ True) (dg_B g D shX o rfX) (dg_A o shX.length sz)) 0 0 (dg_A o shX.length sz) := by
  refine dg_met (cc := cX6_readGrade) (maxL := 2) (ret := (some .boolean)) (by decide) rfl (Nat.le_of_ble_eq_true rfl) ?_
  intro p e s m args below meth c A hAe harg hx hb hr hml hts hown hlocks hin hP K hS hA1 hA ST hsz ls hl
  rw [← hAe]
  have F : CallFix p m c cX6_readGrade 2 s args (bw yX6_readGrade cX6_readGrade 2 (some .boolean)) RX6 := ⟨hx, hb, hml, hown, hts⟩
  have hl : lv_has ls 2 [(0, .ref (o + 209))] := hl
  have M_0 : dg_sm shX [(31, 0), (31, 1), (31, 4), (31, 5)] [20] S S := dg_sm.rf
  refine lv_aload_n hx hb dX6_readGrade_0 rfl (lv_at hl 0 rfl) ?_
  refine dg_callv hS hA1 hA (va_runV (As := []) (rest := []) F (c_rd_pass l g D o S en n0 f_n0 (by omega) ke f_ke (by omega) (by omega) I s.heap.size) (cwV 0 hts (bw_V wB_686 wB_687 wB_688 wB_684 wB_685) rfl rfl rfl (by decide +kernel) ⟨Nat.le_of_ble_eq_true rfl, Nat.le_of_ble_eq_true rfl⟩) (dg_preV sX_209 rfl K ST hP hS hA1 hA) rfl rfl hl.1 rfl (lv_room (Nat.le_of_ble_eq_true rfl)) dX6_readGrade_1 ⟨Nat.le_of_ble_eq_true rfl, Nat.le_of_ble_eq_true rfl⟩) (fun S_1 hw_1 H locs hP hS => ?_)
  obtain ⟨I_1, m_1, w_1_0, -⟩ := hw_1
  have M_1 := dg_sm.tr M_0 m_1 (by decide) (by decide)
  obtain ⟨y_2, f_y_2, w_1_0⟩ := w_1_0
  have w_1_0 : (y_2).toInt ≤ (en).toInt := w_1_0
  have b_y_2 : 0 ≤ (y_2).toInt ∧ (y_2).toInt ≤ 1600 := dg_I.intb (lo := 0) (hi := 1600) I_1 sX_209 (by decide +kernel) f_y_2
  refine lv_aload_n hx hb dX6_readGrade_4 rfl (lv_at hl 0 rfl) ?_
  refine dg_calli hS hA1 hA (va_runV (As := []) (rest := []) F (c_rd_takeCell l g D o S_1 en y_2 f_y_2 (by omega) ke ((congrFun (m_1.2 211 _ sX_211 (by decide)).1 _).trans f_ke) (by omega) (by omega) I_1 H.size) (cwV 0 hts (bw_V wB_722 wB_723 wB_724 wB_684 wB_721) rfl rfl rfl (by decide +kernel) ⟨Nat.le_of_ble_eq_true rfl, Nat.le_of_ble_eq_true rfl⟩) (dg_preV sX_209 rfl K ST hP hS hA1 hA) rfl rfl hl.1 rfl (lv_room (Nat.le_of_ble_eq_true rfl)) dX6_readGrade_5 ⟨Nat.le_of_ble_eq_true rfl, Nat.le_of_ble_eq_true rfl⟩) (fun x_3 S_4 hw_4 H locs hP hS => ?_)
  obtain ⟨I_4, m_4, w_4_0, w_4_1, -⟩ := hw_4
  have M_4 := dg_sm.tr M_1 m_4 (by decide) (by decide)
  have w_4_0 : ((-1) ≤ (x_3).toInt ∧ (x_3).toInt ≤ 62) ∧ ((x_3).toInt ≤ (-1) ∨ 8 ≤ (x_3).toInt) := w_4_0
  obtain ⟨y_5, f_y_5, w_4_1⟩ := w_4_1
  have w_4_1 : (y_5).toInt ≤ (en).toInt := w_4_1
  have b_y_5 : 0 ≤ (y_5).toInt ∧ (y_5).toInt ≤ 1600 := dg_I.intb (lo := 0) (hi := 1600) I_4 sX_209 (by decide +kernel) f_y_5
  refine lv_istore_n (lv' := [(1, .int x_3), (0, .ref (o + 209))]) hx hb dX6_readGrade_8 rfl hl (by decide) rfl (fun ls hl => ?_)
  refine lv_iload_n hx hb dX6_readGrade_9 rfl (lv_at hl 0 rfl) ?_
  refine lv_iconst (v := (-1)) hx hb dX6_readGrade_10 (by decide +kernel) ?_
  refine lv_icmp_eq (tgt := 24) hx hb dX6_readGrade_11 (by decide) (fun c_6 => ?_) (fun c_6 => ?_)
  · have jc_6 := dk_eqc (k := (-1)) (by decide +kernel) c_6
    refine lv_iconst (v := 0) hx hb dX6_readGrade_24 (by decide +kernel) ?_
    have hz_7 : (0 : Int32).toInt = 0 := by decide +kernel
    have hz_8 : (0 : Int32).toInt = 0 := by decide +kernel
    refine W.widen (k := 0) (n := 0) (Nat.le_of_ble_eq_true rfl) (Nat.le_of_ble_eq_true rfl) ?_
    exact dg_iret hx hb hr hlocks (by decide +kernel) hP hS ⟨I_4, M_4, (by decide +kernel), ⟨y_5, f_y_5, (by omega)⟩, trivial⟩ dX6_readGrade_25
  · have jc_6 := dk_neqc (k := (-1)) (by decide +kernel) c_6
    refine lv_aload_n hx hb dX6_readGrade_14 rfl (lv_at hl 1 rfl) ?_
    refine lv_iconst (v := 0) hx hb dX6_readGrade_15 (by decide +kernel) ?_
    refine lv_bipush (v := 9) hx hb dX6_readGrade_16 (by decide +kernel) ?_
    refine dg_calli hS hA1 hA (va_runV (As := [.int 0, .int 9]) (rest := []) F (c_rd_takeNumber l g D o S_4 0 9 en y_5 f_y_5 (by omega) ke ((congrFun ((m_4.2 211 _ sX_211 (by decide)).1.trans (m_1.2 211 _ sX_211 (by decide)).1) _).trans f_ke) (by omega) (by omega) I_4 H.size) (cwV 2 hts (bw_V wB_708 wB_709 wB_710 wB_684 wB_707) rfl rfl rfl (by decide +kernel) ⟨Nat.le_of_ble_eq_true rfl, Nat.le_of_ble_eq_true rfl⟩) (dg_preV sX_209 rfl K ST hP hS hA1 hA) rfl rfl hl.1 rfl (lv_room (Nat.le_of_ble_eq_true rfl)) dX6_readGrade_18 ⟨Nat.le_of_ble_eq_true rfl, Nat.le_of_ble_eq_true rfl⟩) (fun x_9 S_10 hw_10 H locs hP hS => ?_)
    obtain ⟨I_10, m_10, w_10_0, w_10_1, w_10_2, -⟩ := hw_10
    have M_10 := dg_sm.tr M_4 m_10 (by decide) (by decide)
    have hz_11 : (0 : Int32).toInt = 0 := by decide +kernel
    have hz_12 : (9 : Int32).toInt = 9 := by decide +kernel
    have w_10_0 : 0 ≤ (x_9).toInt ∧ (x_9).toInt ≤ 1 := w_10_0
    obtain ⟨y_13, f_y_13, w_10_1⟩ := w_10_1
    have w_10_1 : (x_9).toInt = 1 → (((0 : Int32)).toInt ≤ (y_13).toInt ∧ (y_13).toInt ≤ ((9 : Int32)).toInt) := w_10_1
    obtain ⟨y_14, f_y_14, w_10_2⟩ := w_10_2
    have w_10_2 : (y_14).toInt ≤ (en).toInt := w_10_2
    have b_y_14 : 0 ≤ (y_14).toInt ∧ (y_14).toInt ≤ 1600 := dg_I.intb (lo := 0) (hi := 1600) I_10 sX_209 (by decide +kernel) f_y_14
    refine lv_if_ne (tgt := 26) hx hb dX6_readGrade_21 (by decide) (fun c_15 => ?_) (fun c_15 => ?_)
    · have jc_15 := dk_neqc (k := 0) (by decide +kernel) c_15
      refine lv_aload_n hx hb dX6_readGrade_26 rfl (lv_at hl 1 rfl) ?_
      obtain ⟨d_16, hk_d_16, f_d_16⟩ := dg_I.one (i := 209) (k := 3) (d := 0) I sX_209 (by decide +kernel)
      have hk_d_16 : rX d_16 := hk_d_16
      refine dg_get (C := RX6) (T := TX6) (N := 8) hx hb hts (fun w h => bw_mem (wU_X6 w h)) hown K hP sX_209 rfl 3 (by decide) (hts _ (bw_mem wB_698)) (fun _ h9 => h9) (v := .ref (o + d_16)) (((m_10.1 209 3 _ sX_209 (by decide)).trans ((m_4.1 209 3 _ sX_209 (by decide)).trans (m_1.1 209 3 _ sX_209 (by decide)))).trans f_d_16) dX6_readGrade_27 ?_
      refine dg_get (C := RX2) (T := TX2) (N := 19) hx hb hts (fun w h => bw_mem (wU_X2 w h)) hown K hP (rX_0 d_16 hk_d_16) rfl 5 (by decide) (hts _ (bw_mem wB_725)) (fun _ h9 => h9) (v := .ref (o + (d_16 + 1))) (show S_10.1 d_16 5 = .ref (o + (d_16 + 1)) from dg_I.rel (d := 1) I_10 (rX_0 d_16 hk_d_16) (by decide +kernel)) dX6_readGrade_30 ?_
      refine lv_iload_n hx hb dX6_readGrade_33 rfl (lv_at hl 0 rfl) ?_
      refine lv_aload_n hx hb dX6_readGrade_34 rfl (lv_at hl 1 rfl) ?_
      refine dg_get (C := RX6) (T := TX6) (N := 8) hx hb hts (fun w h => bw_mem (wU_X6 w h)) hown K hP sX_209 rfl 5 (by decide) (hts _ (bw_mem wB_700)) (fun _ h9 => h9) (v := .int y_13) f_y_13 dX6_readGrade_35 ?_
      have hin_17 : vp_in x_3 72 := (dk_inv (by omega) (by omega))
      refine dg_iast hx hb K hP hS hA1 (rX_1 d_16 hk_d_16) hin_17 dX6_readGrade_38 (fun S_18 e_18 H locs hP hS => ?_)
      have I_18 := dg_I.ufu (lo := 0) (hi := 9) I_10 e_18 (rX_1 d_16 hk_d_16) (by decide +kernel) (show 0 ≤ (y_13).toInt ∧ (y_13).toInt ≤ 9 from (by omega))
      have M_18 := dg_sm.uf M_10 e_18 (rX_1 d_16 hk_d_16) (by decide)
      refine lv_iconst (v := 1) hx hb dX6_readGrade_39 (by decide +kernel) ?_
      have hz_19 : (1 : Int32).toInt = 1 := by decide +kernel
      have hz_20 : (1 : Int32).toInt = 1 := by decide +kernel
      refine W.widen (k := 0) (n := 0) (Nat.le_of_ble_eq_true rfl) (Nat.le_of_ble_eq_true rfl) ?_
      exact dg_iret hx hb hr hlocks (by decide +kernel) hP hS ⟨I_18, M_18, (by decide +kernel), ⟨y_14, ((dg_uf_F e_18 209 4).trans f_y_14), (by omega)⟩, trivial⟩ dX6_readGrade_40
    · have jc_15 := dk_eqc (k := 0) (by decide +kernel) c_15
      refine lv_iconst (v := 0) hx hb dX6_readGrade_24 (by decide +kernel) ?_
      have hz_21 : (0 : Int32).toInt = 0 := by decide +kernel
      have hz_22 : (0 : Int32).toInt = 0 := by decide +kernel
      refine W.widen (k := 0) (n := 0) (Nat.le_of_ble_eq_true rfl) (Nat.le_of_ble_eq_true rfl) ?_
      exact dg_iret hx hb hr hlocks (by decide +kernel) hP hS ⟨I_10, M_10, (by decide +kernel), ⟨y_14, f_y_14, (by omega)⟩, trivial⟩ dX6_readGrade_25
set_option maxHeartbeats 8000000 in
set_option maxRecDepth 100000 in
theorem c_rd_readMiner (l : Launch) (g : Nat → ClassId) (D : va_G) (o : Nat) (S : dg_S) (en : Int32) (n0 : Int32) (f_n0 : S.1 209 4 = .int n0) (b_n0 : 0 ≤ (n0).toInt ∧ (n0).toInt ≤ 1600) (ke : Int32) (f_ke : S.2.1 211 (en : Int32).toNatClampNeg = ke) (b_ke : 0 ≤ (ke).toInt ∧ (ke).toInt ≤ 0) (hne : (n0).toInt ≤ (en).toInt ∧ (en).toInt ≤ 1600 ∧ 0 ≤ (en).toInt) (I : CX o S) (sz : Nat) : Met l yX6_readMiner (bw yX6_readMiner cX6_readMiner 1 (some .boolean)) ({ frames := 4, cells := 0, slots := 0, locals := 96 } : Room) (dk_Pc g D (dg_w g shX o rfX S) sz [.ref (o + 209)]) (va_Qi (fun (r : Int32) S' => CX o S' ∧ dg_sm shX [(19, 6), (31, 0), (31, 1), (31, 4), (31, 5)] [21] S S' ∧ (0 ≤ (r).toInt ∧ (r).toInt ≤ 1) ∧ (∃ y9 : Int32, S'.1 209 4 = .int y9 ∧ ((y9).toInt ≤ (en).toInt)) ∧ True) (dg_B g D shX o rfX) (dg_A o shX.length sz)) 0 0 (dg_A o shX.length sz) := by
  refine dg_met (cc := cX6_readMiner) (maxL := 1) (ret := (some .boolean)) (by decide) rfl (Nat.le_of_ble_eq_true rfl) ?_
  intro p e s m args below meth c A hAe harg hx hb hr hml hts hown hlocks hin hP K hS hA1 hA ST hsz ls hl
  rw [← hAe]
  have F : CallFix p m c cX6_readMiner 1 s args (bw yX6_readMiner cX6_readMiner 1 (some .boolean)) RX6 := ⟨hx, hb, hml, hown, hts⟩
  have hl : lv_has ls 1 [(0, .ref (o + 209))] := hl
  have M_0 : dg_sm shX [(19, 6), (31, 0), (31, 1), (31, 4), (31, 5)] [21] S S := dg_sm.rf
  refine lv_aload_n hx hb dX6_readMiner_0 rfl (lv_at hl 0 rfl) ?_
  obtain ⟨d_1, hk_d_1, f_d_1⟩ := dg_I.one (i := 209) (k := 3) (d := 0) I sX_209 (by decide +kernel)
  have hk_d_1 : rX d_1 := hk_d_1
  refine dg_get (C := RX6) (T := TX6) (N := 8) hx hb hts (fun w h => bw_mem (wU_X6 w h)) hown K hP sX_209 rfl 3 (by decide) (hts _ (bw_mem wB_698)) (fun _ h9 => h9) (v := .ref (o + d_1)) f_d_1 dX6_readMiner_1 ?_
  obtain ⟨x_2, f_x_2, b_x_2⟩ := dg_I.int (i := d_1) (k := 6) (lo := 0) (hi := 6) I (rX_0 d_1 hk_d_1) (by decide +kernel)
  refine dg_get (C := RX2) (T := TX2) (N := 19) hx hb hts (fun w h => bw_mem (wU_X2 w h)) hown K hP (rX_0 d_1 hk_d_1) rfl 6 (by decide) (hts _ (bw_mem wB_726)) (fun _ h9 => h9) (v := .int x_2) f_x_2 dX6_readMiner_4 ?_
  refine lv_bipush (v := 6) hx hb dX6_readMiner_7 (by decide +kernel) ?_
  refine lv_icmp_ne (tgt := 19) hx hb dX6_readMiner_9 (by decide) (fun c_3 => ?_) (fun c_3 => ?_)
  · have jc_3 := dk_neqc (k := 6) (by decide +kernel) c_3
    refine lv_aload_n hx hb dX6_readMiner_19 rfl (lv_at hl 0 rfl) ?_
    refine dg_callv hS hA1 hA (va_runV (As := []) (rest := []) F (c_rd_pass l g D o S en n0 f_n0 (by omega) ke f_ke (by omega) (by omega) I s.heap.size) (cwV 0 hts (bw_V wB_686 wB_687 wB_688 wB_684 wB_685) rfl rfl rfl (by decide +kernel) ⟨Nat.le_of_ble_eq_true rfl, Nat.le_of_ble_eq_true rfl⟩) (dg_preV sX_209 rfl K ST hP hS hA1 hA) rfl rfl hl.1 rfl (lv_room (Nat.le_of_ble_eq_true rfl)) dX6_readMiner_20 ⟨Nat.le_of_ble_eq_true rfl, Nat.le_of_ble_eq_true rfl⟩) (fun S_4 hw_4 H locs hP hS => ?_)
    obtain ⟨I_4, m_4, w_4_0, -⟩ := hw_4
    have M_4 := dg_sm.tr M_0 m_4 (by decide) (by decide)
    obtain ⟨y_5, f_y_5, w_4_0⟩ := w_4_0
    have w_4_0 : (y_5).toInt ≤ (en).toInt := w_4_0
    have b_y_5 : 0 ≤ (y_5).toInt ∧ (y_5).toInt ≤ 1600 := dg_I.intb (lo := 0) (hi := 1600) I_4 sX_209 (by decide +kernel) f_y_5
    refine lv_aload_n hx hb dX6_readMiner_23 rfl (lv_at hl 0 rfl) ?_
    refine dg_calli hS hA1 hA (va_runV (As := []) (rest := []) F (c_rd_takeNewName l g D o S_4 en y_5 f_y_5 (by omega) ke ((congrFun (m_4.2 211 _ sX_211 (by decide)).1 _).trans f_ke) (by omega) (by omega) I_4 H.size) (cwV 0 hts (bw_V wB_728 wB_729 wB_730 wB_684 wB_727) rfl rfl rfl (by decide +kernel) ⟨Nat.le_of_ble_eq_true rfl, Nat.le_of_ble_eq_true rfl⟩) (dg_preV sX_209 rfl K ST hP hS hA1 hA) rfl rfl hl.1 rfl (lv_room (Nat.le_of_ble_eq_true rfl)) dX6_readMiner_24 ⟨Nat.le_of_ble_eq_true rfl, Nat.le_of_ble_eq_true rfl⟩) (fun x_6 S_7 hw_7 H locs hP hS => ?_)
    obtain ⟨I_7, m_7, w_7_0, w_7_1, -⟩ := hw_7
    have M_7 := dg_sm.tr M_4 m_7 (by decide) (by decide)
    have w_7_0 : 0 ≤ (x_6).toInt ∧ (x_6).toInt ≤ 1 := w_7_0
    obtain ⟨y_8, f_y_8, w_7_1⟩ := w_7_1
    have w_7_1 : (y_8).toInt ≤ (en).toInt := w_7_1
    have b_y_8 : 0 ≤ (y_8).toInt ∧ (y_8).toInt ≤ 1600 := dg_I.intb (lo := 0) (hi := 1600) I_7 sX_209 (by decide +kernel) f_y_8
    refine lv_if_ne (tgt := 32) hx hb dX6_readMiner_27 (by decide) (fun c_9 => ?_) (fun c_9 => ?_)
    · have jc_9 := dk_neqc (k := 0) (by decide +kernel) c_9
      refine lv_aload_n hx hb dX6_readMiner_32 rfl (lv_at hl 0 rfl) ?_
      refine dg_get (C := RX6) (T := TX6) (N := 8) hx hb hts (fun w h => bw_mem (wU_X6 w h)) hown K hP sX_209 rfl 3 (by decide) (hts _ (bw_mem wB_698)) (fun _ h9 => h9) (v := .ref (o + d_1)) (((m_7.1 209 3 _ sX_209 (by decide)).trans (m_4.1 209 3 _ sX_209 (by decide))).trans f_d_1) dX6_readMiner_33 ?_
      refine dg_get (C := RX2) (T := TX2) (N := 19) hx hb hts (fun w h => bw_mem (wU_X2 w h)) hown K hP (rX_0 d_1 hk_d_1) rfl 7 (by decide) (hts _ (bw_mem wB_731)) (fun _ h9 => h9) (v := .ref (o + (d_1 + 2))) (show S_7.1 d_1 7 = .ref (o + (d_1 + 2)) from dg_I.rel (d := 2) I_7 (rX_0 d_1 hk_d_1) (by decide +kernel)) dX6_readMiner_36 ?_
      refine lv_aload_n hx hb dX6_readMiner_39 rfl (lv_at hl 0 rfl) ?_
      refine dg_get (C := RX6) (T := TX6) (N := 8) hx hb hts (fun w h => bw_mem (wU_X6 w h)) hown K hP sX_209 rfl 3 (by decide) (hts _ (bw_mem wB_698)) (fun _ h9 => h9) (v := .ref (o + d_1)) (((m_7.1 209 3 _ sX_209 (by decide)).trans (m_4.1 209 3 _ sX_209 (by decide))).trans f_d_1) dX6_readMiner_40 ?_
      refine dg_get (C := RX2) (T := TX2) (N := 19) hx hb hts (fun w h => bw_mem (wU_X2 w h)) hown K hP (rX_0 d_1 hk_d_1) rfl 6 (by decide) (hts _ (bw_mem wB_726)) (fun _ h9 => h9) (v := .int x_2) (((m_7.1 d_1 6 _ (rX_0 d_1 hk_d_1) (by decide)).trans (m_4.1 d_1 6 _ (rX_0 d_1 hk_d_1) (by decide))).trans f_x_2) dX6_readMiner_43 ?_
      refine lv_aload_n hx hb dX6_readMiner_46 rfl (lv_at hl 0 rfl) ?_
      obtain ⟨x_10, f_x_10, b_x_10⟩ := dg_I.int (i := 209) (k := 5) (lo := (-2147483648)) (hi := 2147483647) I_7 sX_209 (by decide +kernel)
      refine dg_get (C := RX6) (T := TX6) (N := 8) hx hb hts (fun w h => bw_mem (wU_X6 w h)) hown K hP sX_209 rfl 5 (by decide) (hts _ (bw_mem wB_700)) (fun _ h9 => h9) (v := .int x_10) f_x_10 dX6_readMiner_47 ?_
      have hin_11 : vp_in x_2 6 := (dk_inv (by omega) (by omega))
      refine dg_iast hx hb K hP hS hA1 (rX_2 d_1 hk_d_1) hin_11 dX6_readMiner_50 (fun S_12 e_12 H locs hP hS => ?_)
      have I_12 := dg_I.uf0 I_7 e_12 (rX_2 d_1 hk_d_1) (by decide +kernel)
      have M_12 := dg_sm.uf M_7 e_12 (rX_2 d_1 hk_d_1) (by decide)
      refine lv_aload_n hx hb dX6_readMiner_51 rfl (lv_at hl 0 rfl) ?_
      refine dg_get (C := RX6) (T := TX6) (N := 8) hx hb hts (fun w h => bw_mem (wU_X6 w h)) hown K hP sX_209 rfl 3 (by decide) (hts _ (bw_mem wB_698)) (fun _ h9 => h9) (v := .ref (o + d_1)) (((dg_uf_F e_12 209 3).trans ((m_7.1 209 3 _ sX_209 (by decide)).trans (m_4.1 209 3 _ sX_209 (by decide)))).trans f_d_1) dX6_readMiner_52 ?_
      refine lv_dup hx hb dX6_readMiner_55 rfl ?_
      refine dg_get (C := RX2) (T := TX2) (N := 19) hx hb hts (fun w h => bw_mem (wU_X2 w h)) hown K hP (rX_0 d_1 hk_d_1) rfl 6 (by decide) (hts _ (bw_mem wB_726)) (fun _ h9 => h9) (v := .int x_2) (((dg_uf_F e_12 d_1 6).trans ((m_7.1 d_1 6 _ (rX_0 d_1 hk_d_1) (by decide)).trans (m_4.1 d_1 6 _ (rX_0 d_1 hk_d_1) (by decide)))).trans f_x_2) dX6_readMiner_56 ?_
      refine lv_iconst (v := 1) hx hb dX6_readMiner_59 (by decide +kernel) ?_
      refine lv_iadd hx hb dX6_readMiner_60 ?_
      refine lv_topi (fun x_13 ex_13 => ?_)
      have jx_13 : (x_13).toInt = (x_2).toInt + 1 := by rw [ex_13]; exact dk_addT rfl (by decide +kernel) (by omega) (by omega)
      refine dg_put (ci := 2) (v := .int x_13) (ty := tyX2 6) (C := RX2) (T := TX2) (N := 19) hx hb hts (fun w h => bw_mem (wU_X2 w h)) tyX2 tyX2_ok nmX2 hown K hP hS hA1 (rX_0 d_1 hk_d_1) rfl 6 (by decide) (hts _ (bw_mem wB_726)) (fun _ h9 => h9) rfl (by decide +kernel) rfl rfl dX6_readMiner_61 (fun S_14 e_14 H locs hP hS => ?_)
      have I_14 := dg_I.uFi (lo := 0) (hi := 6) I_12 e_14 (rX_0 d_1 hk_d_1) (by decide +kernel) (show 0 ≤ (x_13).toInt ∧ (x_13).toInt ≤ 6 from (by omega))
      have M_14 := dg_sm.uF M_12 e_14 (rX_0 d_1 hk_d_1) (by decide)
      refine lv_iconst (v := 1) hx hb dX6_readMiner_64 (by decide +kernel) ?_
      have hz_15 : (1 : Int32).toInt = 1 := by decide +kernel
      have hz_16 : (1 : Int32).toInt = 1 := by decide +kernel
      refine W.widen (k := 0) (n := 0) (Nat.le_of_ble_eq_true rfl) (Nat.le_of_ble_eq_true rfl) ?_
      exact dg_iret hx hb hr hlocks (by decide +kernel) hP hS ⟨I_14, M_14, (by decide +kernel), ⟨y_8, (((dg_uF_ne e_14 (fun z => absurd z.2 (by decide))).trans (dg_uf_F e_12 209 4)).trans f_y_8), (by omega)⟩, trivial⟩ dX6_readMiner_65
    · have jc_9 := dk_eqc (k := 0) (by decide +kernel) c_9
      refine lv_iconst (v := 0) hx hb dX6_readMiner_30 (by decide +kernel) ?_
      have hz_17 : (0 : Int32).toInt = 0 := by decide +kernel
      have hz_18 : (0 : Int32).toInt = 0 := by decide +kernel
      refine W.widen (k := 0) (n := 0) (Nat.le_of_ble_eq_true rfl) (Nat.le_of_ble_eq_true rfl) ?_
      exact dg_iret hx hb hr hlocks (by decide +kernel) hP hS ⟨I_7, M_7, (by decide +kernel), ⟨y_8, f_y_8, (by omega)⟩, trivial⟩ dX6_readMiner_31
  · have jc_3 := dk_eqc (k := 6) (by decide +kernel) c_3
    refine lv_aload_n hx hb dX6_readMiner_12 rfl (lv_at hl 0 rfl) ?_
    refine lv_bipush (v := 6) hx hb dX6_readMiner_13 (by decide +kernel) ?_
    refine dg_calli hS hA1 hA (va_runV (As := [.int 6]) (rest := []) F (c_rd_fail l g D o S 6 en n0 f_n0 (by omega) ke f_ke (by omega) (by omega) I s.heap.size) (cwV 1 hts (bw_V wB_690 wB_691 wB_692 wB_684 wB_689) rfl rfl rfl (by decide +kernel) ⟨Nat.le_of_ble_eq_true rfl, Nat.le_of_ble_eq_true rfl⟩) (dg_preV sX_209 rfl K ST hP hS hA1 hA) rfl rfl hl.1 rfl (lv_room (Nat.le_of_ble_eq_true rfl)) dX6_readMiner_15 ⟨Nat.le_of_ble_eq_true rfl, Nat.le_of_ble_eq_true rfl⟩) (fun x_19 S_20 hw_20 H locs hP hS => ?_)
    obtain ⟨I_20, m_20, w_20_0, -⟩ := hw_20
    have M_20 := dg_sm.tr M_0 m_20 (by decide) (by decide)
    have w_20_0 : 0 ≤ (x_19).toInt ∧ (x_19).toInt ≤ 0 := w_20_0
    refine W.widen (k := 0) (n := 0) (Nat.le_of_ble_eq_true rfl) (Nat.le_of_ble_eq_true rfl) ?_
    exact dg_iret hx hb hr hlocks (dk_znar (by omega) (by omega)) hP hS ⟨I_20, M_20, (by omega), ⟨n0, ((m_20.1 209 4 _ sX_209 (by decide)).trans f_n0), (by omega)⟩, trivial⟩ dX6_readMiner_18
set_option maxHeartbeats 8000000 in
set_option maxRecDepth 100000 in
theorem c_rd_readDig (l : Launch) (g : Nat → ClassId) (D : va_G) (o : Nat) (S : dg_S) (en : Int32) (n0 : Int32) (f_n0 : S.1 209 4 = .int n0) (b_n0 : 0 ≤ (n0).toInt ∧ (n0).toInt ≤ 1600) (ke : Int32) (f_ke : S.2.1 211 (en : Int32).toNatClampNeg = ke) (b_ke : 0 ≤ (ke).toInt ∧ (ke).toInt ≤ 0) (hne : (n0).toInt ≤ (en).toInt ∧ (en).toInt ≤ 1600 ∧ 0 ≤ (en).toInt) (I : CX o S) (sz : Nat) : Met l yX6_readDig (bw yX6_readDig cX6_readDig 3 (some .boolean)) ({ frames := 4, cells := 0, slots := 0, locals := 97 } : Room) (dk_Pc g D (dg_w g shX o rfX S) sz [.ref (o + 209)]) (va_Qi (fun (r : Int32) S' => CX o S' ∧ dg_sm shX [(19, 8), (31, 0), (31, 1), (31, 4), (31, 5)] [22, 23] S S' ∧ (0 ≤ (r).toInt ∧ (r).toInt ≤ 1) ∧ (∃ y9 : Int32, S'.1 209 4 = .int y9 ∧ ((y9).toInt ≤ (en).toInt)) ∧ True) (dg_B g D shX o rfX) (dg_A o shX.length sz)) 0 0 (dg_A o shX.length sz) := by
  refine dg_met (cc := cX6_readDig) (maxL := 3) (ret := (some .boolean)) (by decide) rfl (Nat.le_of_ble_eq_true rfl) ?_
  intro p e s m args below meth c A hAe harg hx hb hr hml hts hown hlocks hin hP K hS hA1 hA ST hsz ls hl
  rw [← hAe]
  have F : CallFix p m c cX6_readDig 3 s args (bw yX6_readDig cX6_readDig 3 (some .boolean)) RX6 := ⟨hx, hb, hml, hown, hts⟩
  have hl : lv_has ls 3 [(0, .ref (o + 209))] := hl
  have M_0 : dg_sm shX [(19, 8), (31, 0), (31, 1), (31, 4), (31, 5)] [22, 23] S S := dg_sm.rf
  refine lv_aload_n hx hb dX6_readDig_0 rfl (lv_at hl 0 rfl) ?_
  obtain ⟨d_1, hk_d_1, f_d_1⟩ := dg_I.one (i := 209) (k := 3) (d := 0) I sX_209 (by decide +kernel)
  have hk_d_1 : rX d_1 := hk_d_1
  refine dg_get (C := RX6) (T := TX6) (N := 8) hx hb hts (fun w h => bw_mem (wU_X6 w h)) hown K hP sX_209 rfl 3 (by decide) (hts _ (bw_mem wB_698)) (fun _ h9 => h9) (v := .ref (o + d_1)) f_d_1 dX6_readDig_1 ?_
  obtain ⟨x_2, f_x_2, b_x_2⟩ := dg_I.int (i := d_1) (k := 8) (lo := 0) (hi := 16) I (rX_0 d_1 hk_d_1) (by decide +kernel)
  refine dg_get (C := RX2) (T := TX2) (N := 19) hx hb hts (fun w h => bw_mem (wU_X2 w h)) hown K hP (rX_0 d_1 hk_d_1) rfl 8 (by decide) (hts _ (bw_mem wB_732)) (fun _ h9 => h9) (v := .int x_2) f_x_2 dX6_readDig_4 ?_
  refine lv_bipush (v := 16) hx hb dX6_readDig_7 (by decide +kernel) ?_
  refine lv_icmp_ne (tgt := 19) hx hb dX6_readDig_9 (by decide) (fun c_3 => ?_) (fun c_3 => ?_)
  · have jc_3 := dk_neqc (k := 16) (by decide +kernel) c_3
    refine lv_aload_n hx hb dX6_readDig_19 rfl (lv_at hl 0 rfl) ?_
    refine dg_callv hS hA1 hA (va_runV (As := []) (rest := []) F (c_rd_pass l g D o S en n0 f_n0 (by omega) ke f_ke (by omega) (by omega) I s.heap.size) (cwV 0 hts (bw_V wB_686 wB_687 wB_688 wB_684 wB_685) rfl rfl rfl (by decide +kernel) ⟨Nat.le_of_ble_eq_true rfl, Nat.le_of_ble_eq_true rfl⟩) (dg_preV sX_209 rfl K ST hP hS hA1 hA) rfl rfl hl.1 rfl (lv_room (Nat.le_of_ble_eq_true rfl)) dX6_readDig_20 ⟨Nat.le_of_ble_eq_true rfl, Nat.le_of_ble_eq_true rfl⟩) (fun S_4 hw_4 H locs hP hS => ?_)
    obtain ⟨I_4, m_4, w_4_0, -⟩ := hw_4
    have M_4 := dg_sm.tr M_0 m_4 (by decide) (by decide)
    obtain ⟨y_5, f_y_5, w_4_0⟩ := w_4_0
    have w_4_0 : (y_5).toInt ≤ (en).toInt := w_4_0
    have b_y_5 : 0 ≤ (y_5).toInt ∧ (y_5).toInt ≤ 1600 := dg_I.intb (lo := 0) (hi := 1600) I_4 sX_209 (by decide +kernel) f_y_5
    refine lv_aload_n hx hb dX6_readDig_23 rfl (lv_at hl 0 rfl) ?_
    refine dg_calli hS hA1 hA (va_runV (As := []) (rest := []) F (c_rd_takeMiner l g D o S_4 en y_5 f_y_5 (by omega) ke ((congrFun (m_4.2 211 _ sX_211 (by decide)).1 _).trans f_ke) (by omega) (by omega) I_4 H.size) (cwV 0 hts (bw_V wB_734 wB_735 wB_736 wB_684 wB_733) rfl rfl rfl (by decide +kernel) ⟨Nat.le_of_ble_eq_true rfl, Nat.le_of_ble_eq_true rfl⟩) (dg_preV sX_209 rfl K ST hP hS hA1 hA) rfl rfl hl.1 rfl (lv_room (Nat.le_of_ble_eq_true rfl)) dX6_readDig_24 ⟨Nat.le_of_ble_eq_true rfl, Nat.le_of_ble_eq_true rfl⟩) (fun x_6 S_7 hw_7 H locs hP hS => ?_)
    obtain ⟨I_7, m_7, w_7_0, w_7_1, -⟩ := hw_7
    have M_7 := dg_sm.tr M_4 m_7 (by decide) (by decide)
    have w_7_0 : (-1) ≤ (x_6).toInt ∧ (x_6).toInt ≤ 5 := w_7_0
    obtain ⟨y_8, f_y_8, w_7_1⟩ := w_7_1
    have w_7_1 : (y_8).toInt ≤ (en).toInt := w_7_1
    have b_y_8 : 0 ≤ (y_8).toInt ∧ (y_8).toInt ≤ 1600 := dg_I.intb (lo := 0) (hi := 1600) I_7 sX_209 (by decide +kernel) f_y_8
    refine lv_istore_n (lv' := [(1, .int x_6), (0, .ref (o + 209))]) hx hb dX6_readDig_27 rfl hl (by decide) rfl (fun ls hl => ?_)
    refine lv_iload_n hx hb dX6_readDig_28 rfl (lv_at hl 0 rfl) ?_
    refine lv_iconst (v := (-1)) hx hb dX6_readDig_29 (by decide +kernel) ?_
    refine lv_icmp_eq (tgt := 42) hx hb dX6_readDig_30 (by decide) (fun c_9 => ?_) (fun c_9 => ?_)
    · have jc_9 := dk_eqc (k := (-1)) (by decide +kernel) c_9
      refine lv_iconst (v := 0) hx hb dX6_readDig_42 (by decide +kernel) ?_
      have hz_10 : (0 : Int32).toInt = 0 := by decide +kernel
      have hz_11 : (0 : Int32).toInt = 0 := by decide +kernel
      refine W.widen (k := 0) (n := 0) (Nat.le_of_ble_eq_true rfl) (Nat.le_of_ble_eq_true rfl) ?_
      exact dg_iret hx hb hr hlocks (by decide +kernel) hP hS ⟨I_7, M_7, (by decide +kernel), ⟨y_8, f_y_8, (by omega)⟩, trivial⟩ dX6_readDig_43
    · have jc_9 := dk_neqc (k := (-1)) (by decide +kernel) c_9
      refine lv_aload_n hx hb dX6_readDig_33 rfl (lv_at hl 1 rfl) ?_
      refine lv_bipush (v := 8) hx hb dX6_readDig_34 (by decide +kernel) ?_
      refine dg_calli hS hA1 hA (va_runV (As := [.int 8]) (rest := []) F (c_rd_takeOwn l g D o S_7 8 en y_8 f_y_8 (by omega) ke ((congrFun ((m_7.2 211 _ sX_211 (by decide)).1.trans (m_4.2 211 _ sX_211 (by decide)).1) _).trans f_ke) (by omega) (by omega) I_7 H.size) (cwV 1 hts (bw_V wB_715 wB_716 wB_717 wB_684 wB_714) rfl rfl rfl (by decide +kernel) ⟨Nat.le_of_ble_eq_true rfl, Nat.le_of_ble_eq_true rfl⟩) (dg_preV sX_209 rfl K ST hP hS hA1 hA) rfl rfl hl.1 rfl (lv_room (Nat.le_of_ble_eq_true rfl)) dX6_readDig_36 ⟨Nat.le_of_ble_eq_true rfl, Nat.le_of_ble_eq_true rfl⟩) (fun x_12 S_13 hw_13 H locs hP hS => ?_)
      obtain ⟨I_13, m_13, w_13_0, w_13_1, -⟩ := hw_13
      have M_13 := dg_sm.tr M_7 m_13 (by decide) (by decide)
      have hz_14 : (8 : Int32).toInt = 8 := by decide +kernel
      have w_13_0 : 0 ≤ (x_12).toInt ∧ (x_12).toInt ≤ 1 := w_13_0
      obtain ⟨y_15, f_y_15, w_13_1⟩ := w_13_1
      have w_13_1 : (y_15).toInt ≤ (en).toInt := w_13_1
      have b_y_15 : 0 ≤ (y_15).toInt ∧ (y_15).toInt ≤ 1600 := dg_I.intb (lo := 0) (hi := 1600) I_13 sX_209 (by decide +kernel) f_y_15
      refine lv_if_ne (tgt := 44) hx hb dX6_readDig_39 (by decide) (fun c_16 => ?_) (fun c_16 => ?_)
      · have jc_16 := dk_neqc (k := 0) (by decide +kernel) c_16
        refine lv_aload_n hx hb dX6_readDig_44 rfl (lv_at hl 1 rfl) ?_
        refine dg_calli hS hA1 hA (va_runV (As := []) (rest := []) F (c_rd_takeCell l g D o S_13 en y_15 f_y_15 (by omega) ke ((congrFun ((m_13.2 211 _ sX_211 (by decide)).1.trans ((m_7.2 211 _ sX_211 (by decide)).1.trans (m_4.2 211 _ sX_211 (by decide)).1)) _).trans f_ke) (by omega) (by omega) I_13 H.size) (cwV 0 hts (bw_V wB_722 wB_723 wB_724 wB_684 wB_721) rfl rfl rfl (by decide +kernel) ⟨Nat.le_of_ble_eq_true rfl, Nat.le_of_ble_eq_true rfl⟩) (dg_preV sX_209 rfl K ST hP hS hA1 hA) rfl rfl hl.1 rfl (lv_room (Nat.le_of_ble_eq_true rfl)) dX6_readDig_45 ⟨Nat.le_of_ble_eq_true rfl, Nat.le_of_ble_eq_true rfl⟩) (fun x_17 S_18 hw_18 H locs hP hS => ?_)
        obtain ⟨I_18, m_18, w_18_0, w_18_1, -⟩ := hw_18
        have M_18 := dg_sm.tr M_13 m_18 (by decide) (by decide)
        have w_18_0 : ((-1) ≤ (x_17).toInt ∧ (x_17).toInt ≤ 62) ∧ ((x_17).toInt ≤ (-1) ∨ 8 ≤ (x_17).toInt) := w_18_0
        obtain ⟨y_19, f_y_19, w_18_1⟩ := w_18_1
        have w_18_1 : (y_19).toInt ≤ (en).toInt := w_18_1
        have b_y_19 : 0 ≤ (y_19).toInt ∧ (y_19).toInt ≤ 1600 := dg_I.intb (lo := 0) (hi := 1600) I_18 sX_209 (by decide +kernel) f_y_19
        refine lv_istore_n (lv' := [(2, .int x_17), (1, .int x_6), (0, .ref (o + 209))]) hx hb dX6_readDig_48 rfl hl (by decide) rfl (fun ls hl => ?_)
        refine lv_iload_n hx hb dX6_readDig_49 rfl (lv_at hl 0 rfl) ?_
        refine lv_iconst (v := (-1)) hx hb dX6_readDig_50 (by decide +kernel) ?_
        refine lv_icmp_ne (tgt := 56) hx hb dX6_readDig_51 (by decide) (fun c_20 => ?_) (fun c_20 => ?_)
        · have jc_20 := dk_neqc (k := (-1)) (by decide +kernel) c_20
          refine lv_aload_n hx hb dX6_readDig_56 rfl (lv_at hl 2 rfl) ?_
          refine dg_get (C := RX6) (T := TX6) (N := 8) hx hb hts (fun w h => bw_mem (wU_X6 w h)) hown K hP sX_209 rfl 3 (by decide) (hts _ (bw_mem wB_698)) (fun _ h9 => h9) (v := .ref (o + d_1)) (((m_18.1 209 3 _ sX_209 (by decide)).trans ((m_13.1 209 3 _ sX_209 (by decide)).trans ((m_7.1 209 3 _ sX_209 (by decide)).trans (m_4.1 209 3 _ sX_209 (by decide))))).trans f_d_1) dX6_readDig_57 ?_
          refine dg_get (C := RX2) (T := TX2) (N := 19) hx hb hts (fun w h => bw_mem (wU_X2 w h)) hown K hP (rX_0 d_1 hk_d_1) rfl 9 (by decide) (hts _ (bw_mem wB_737)) (fun _ h9 => h9) (v := .ref (o + (d_1 + 3))) (show S_18.1 d_1 9 = .ref (o + (d_1 + 3)) from dg_I.rel (d := 3) I_18 (rX_0 d_1 hk_d_1) (by decide +kernel)) dX6_readDig_60 ?_
          refine lv_aload_n hx hb dX6_readDig_63 rfl (lv_at hl 2 rfl) ?_
          refine dg_get (C := RX6) (T := TX6) (N := 8) hx hb hts (fun w h => bw_mem (wU_X6 w h)) hown K hP sX_209 rfl 3 (by decide) (hts _ (bw_mem wB_698)) (fun _ h9 => h9) (v := .ref (o + d_1)) (((m_18.1 209 3 _ sX_209 (by decide)).trans ((m_13.1 209 3 _ sX_209 (by decide)).trans ((m_7.1 209 3 _ sX_209 (by decide)).trans (m_4.1 209 3 _ sX_209 (by decide))))).trans f_d_1) dX6_readDig_64 ?_
          refine dg_get (C := RX2) (T := TX2) (N := 19) hx hb hts (fun w h => bw_mem (wU_X2 w h)) hown K hP (rX_0 d_1 hk_d_1) rfl 8 (by decide) (hts _ (bw_mem wB_732)) (fun _ h9 => h9) (v := .int x_2) (((m_18.1 d_1 8 _ (rX_0 d_1 hk_d_1) (by decide)).trans ((m_13.1 d_1 8 _ (rX_0 d_1 hk_d_1) (by decide)).trans ((m_7.1 d_1 8 _ (rX_0 d_1 hk_d_1) (by decide)).trans (m_4.1 d_1 8 _ (rX_0 d_1 hk_d_1) (by decide))))).trans f_x_2) dX6_readDig_67 ?_
          refine lv_iload_n hx hb dX6_readDig_70 rfl (lv_at hl 1 rfl) ?_
          have hin_21 : vp_in x_2 16 := (dk_inv (by omega) (by omega))
          refine dg_iast hx hb K hP hS hA1 (rX_3 d_1 hk_d_1) hin_21 dX6_readDig_71 (fun S_22 e_22 H locs hP hS => ?_)
          have I_22 := dg_I.ufu (lo := 0) (hi := 5) I_18 e_22 (rX_3 d_1 hk_d_1) (by decide +kernel) (show 0 ≤ (x_6).toInt ∧ (x_6).toInt ≤ 5 from (by omega))
          have M_22 := dg_sm.uf M_18 e_22 (rX_3 d_1 hk_d_1) (by decide)
          refine lv_aload_n hx hb dX6_readDig_72 rfl (lv_at hl 2 rfl) ?_
          refine dg_get (C := RX6) (T := TX6) (N := 8) hx hb hts (fun w h => bw_mem (wU_X6 w h)) hown K hP sX_209 rfl 3 (by decide) (hts _ (bw_mem wB_698)) (fun _ h9 => h9) (v := .ref (o + d_1)) (((dg_uf_F e_22 209 3).trans ((m_18.1 209 3 _ sX_209 (by decide)).trans ((m_13.1 209 3 _ sX_209 (by decide)).trans ((m_7.1 209 3 _ sX_209 (by decide)).trans (m_4.1 209 3 _ sX_209 (by decide)))))).trans f_d_1) dX6_readDig_73 ?_
          refine dg_get (C := RX2) (T := TX2) (N := 19) hx hb hts (fun w h => bw_mem (wU_X2 w h)) hown K hP (rX_0 d_1 hk_d_1) rfl 10 (by decide) (hts _ (bw_mem wB_738)) (fun _ h9 => h9) (v := .ref (o + (d_1 + 4))) (show S_22.1 d_1 10 = .ref (o + (d_1 + 4)) from dg_I.rel (d := 4) I_22 (rX_0 d_1 hk_d_1) (by decide +kernel)) dX6_readDig_76 ?_
          refine lv_aload_n hx hb dX6_readDig_79 rfl (lv_at hl 2 rfl) ?_
          refine dg_get (C := RX6) (T := TX6) (N := 8) hx hb hts (fun w h => bw_mem (wU_X6 w h)) hown K hP sX_209 rfl 3 (by decide) (hts _ (bw_mem wB_698)) (fun _ h9 => h9) (v := .ref (o + d_1)) (((dg_uf_F e_22 209 3).trans ((m_18.1 209 3 _ sX_209 (by decide)).trans ((m_13.1 209 3 _ sX_209 (by decide)).trans ((m_7.1 209 3 _ sX_209 (by decide)).trans (m_4.1 209 3 _ sX_209 (by decide)))))).trans f_d_1) dX6_readDig_80 ?_
          refine dg_get (C := RX2) (T := TX2) (N := 19) hx hb hts (fun w h => bw_mem (wU_X2 w h)) hown K hP (rX_0 d_1 hk_d_1) rfl 8 (by decide) (hts _ (bw_mem wB_732)) (fun _ h9 => h9) (v := .int x_2) (((dg_uf_F e_22 d_1 8).trans ((m_18.1 d_1 8 _ (rX_0 d_1 hk_d_1) (by decide)).trans ((m_13.1 d_1 8 _ (rX_0 d_1 hk_d_1) (by decide)).trans ((m_7.1 d_1 8 _ (rX_0 d_1 hk_d_1) (by decide)).trans (m_4.1 d_1 8 _ (rX_0 d_1 hk_d_1) (by decide)))))).trans f_x_2) dX6_readDig_83 ?_
          refine lv_iload_n hx hb dX6_readDig_86 rfl (lv_at hl 0 rfl) ?_
          have hin_23 : vp_in x_2 16 := (dk_inv (by omega) (by omega))
          refine dg_iast hx hb K hP hS hA1 (rX_4 d_1 hk_d_1) hin_23 dX6_readDig_87 (fun S_24 e_24 H locs hP hS => ?_)
          have I_24 := dg_I.ufu (lo := 0) (hi := 63) I_22 e_24 (rX_4 d_1 hk_d_1) (by decide +kernel) (show 0 ≤ (x_17).toInt ∧ (x_17).toInt ≤ 63 from (by omega))
          have M_24 := dg_sm.uf M_22 e_24 (rX_4 d_1 hk_d_1) (by decide)
          refine lv_aload_n hx hb dX6_readDig_88 rfl (lv_at hl 2 rfl) ?_
          refine dg_get (C := RX6) (T := TX6) (N := 8) hx hb hts (fun w h => bw_mem (wU_X6 w h)) hown K hP sX_209 rfl 3 (by decide) (hts _ (bw_mem wB_698)) (fun _ h9 => h9) (v := .ref (o + d_1)) (((dg_uf_F e_24 209 3).trans ((dg_uf_F e_22 209 3).trans ((m_18.1 209 3 _ sX_209 (by decide)).trans ((m_13.1 209 3 _ sX_209 (by decide)).trans ((m_7.1 209 3 _ sX_209 (by decide)).trans (m_4.1 209 3 _ sX_209 (by decide))))))).trans f_d_1) dX6_readDig_89 ?_
          refine lv_dup hx hb dX6_readDig_92 rfl ?_
          refine dg_get (C := RX2) (T := TX2) (N := 19) hx hb hts (fun w h => bw_mem (wU_X2 w h)) hown K hP (rX_0 d_1 hk_d_1) rfl 8 (by decide) (hts _ (bw_mem wB_732)) (fun _ h9 => h9) (v := .int x_2) (((dg_uf_F e_24 d_1 8).trans ((dg_uf_F e_22 d_1 8).trans ((m_18.1 d_1 8 _ (rX_0 d_1 hk_d_1) (by decide)).trans ((m_13.1 d_1 8 _ (rX_0 d_1 hk_d_1) (by decide)).trans ((m_7.1 d_1 8 _ (rX_0 d_1 hk_d_1) (by decide)).trans (m_4.1 d_1 8 _ (rX_0 d_1 hk_d_1) (by decide))))))).trans f_x_2) dX6_readDig_93 ?_
          refine lv_iconst (v := 1) hx hb dX6_readDig_96 (by decide +kernel) ?_
          refine lv_iadd hx hb dX6_readDig_97 ?_
          refine lv_topi (fun x_25 ex_25 => ?_)
          have jx_25 : (x_25).toInt = (x_2).toInt + 1 := by rw [ex_25]; exact dk_addT rfl (by decide +kernel) (by omega) (by omega)
          refine dg_put (ci := 2) (v := .int x_25) (ty := tyX2 8) (C := RX2) (T := TX2) (N := 19) hx hb hts (fun w h => bw_mem (wU_X2 w h)) tyX2 tyX2_ok nmX2 hown K hP hS hA1 (rX_0 d_1 hk_d_1) rfl 8 (by decide) (hts _ (bw_mem wB_732)) (fun _ h9 => h9) rfl (by decide +kernel) rfl rfl dX6_readDig_98 (fun S_26 e_26 H locs hP hS => ?_)
          have I_26 := dg_I.uFi (lo := 0) (hi := 16) I_24 e_26 (rX_0 d_1 hk_d_1) (by decide +kernel) (show 0 ≤ (x_25).toInt ∧ (x_25).toInt ≤ 16 from (by omega))
          have M_26 := dg_sm.uF M_24 e_26 (rX_0 d_1 hk_d_1) (by decide)
          refine lv_iconst (v := 1) hx hb dX6_readDig_101 (by decide +kernel) ?_
          have hz_27 : (1 : Int32).toInt = 1 := by decide +kernel
          have hz_28 : (1 : Int32).toInt = 1 := by decide +kernel
          refine W.widen (k := 0) (n := 0) (Nat.le_of_ble_eq_true rfl) (Nat.le_of_ble_eq_true rfl) ?_
          exact dg_iret hx hb hr hlocks (by decide +kernel) hP hS ⟨I_26, M_26, (by decide +kernel), ⟨y_19, (((dg_uF_ne e_26 (fun z => absurd z.2 (by decide))).trans ((dg_uf_F e_24 209 4).trans (dg_uf_F e_22 209 4))).trans f_y_19), (by omega)⟩, trivial⟩ dX6_readDig_102
        · have jc_20 := dk_eqc (k := (-1)) (by decide +kernel) c_20
          refine lv_iconst (v := 0) hx hb dX6_readDig_54 (by decide +kernel) ?_
          have hz_29 : (0 : Int32).toInt = 0 := by decide +kernel
          have hz_30 : (0 : Int32).toInt = 0 := by decide +kernel
          refine W.widen (k := 0) (n := 0) (Nat.le_of_ble_eq_true rfl) (Nat.le_of_ble_eq_true rfl) ?_
          exact dg_iret hx hb hr hlocks (by decide +kernel) hP hS ⟨I_18, M_18, (by decide +kernel), ⟨y_19, f_y_19, (by omega)⟩, trivial⟩ dX6_readDig_55
      · have jc_16 := dk_eqc (k := 0) (by decide +kernel) c_16
        refine lv_iconst (v := 0) hx hb dX6_readDig_42 (by decide +kernel) ?_
        have hz_31 : (0 : Int32).toInt = 0 := by decide +kernel
        have hz_32 : (0 : Int32).toInt = 0 := by decide +kernel
        refine W.widen (k := 0) (n := 0) (Nat.le_of_ble_eq_true rfl) (Nat.le_of_ble_eq_true rfl) ?_
        exact dg_iret hx hb hr hlocks (by decide +kernel) hP hS ⟨I_13, M_13, (by decide +kernel), ⟨y_15, f_y_15, (by omega)⟩, trivial⟩ dX6_readDig_43
  · have jc_3 := dk_eqc (k := 16) (by decide +kernel) c_3
    refine lv_aload_n hx hb dX6_readDig_12 rfl (lv_at hl 0 rfl) ?_
    refine lv_bipush (v := 6) hx hb dX6_readDig_13 (by decide +kernel) ?_
    refine dg_calli hS hA1 hA (va_runV (As := [.int 6]) (rest := []) F (c_rd_fail l g D o S 6 en n0 f_n0 (by omega) ke f_ke (by omega) (by omega) I s.heap.size) (cwV 1 hts (bw_V wB_690 wB_691 wB_692 wB_684 wB_689) rfl rfl rfl (by decide +kernel) ⟨Nat.le_of_ble_eq_true rfl, Nat.le_of_ble_eq_true rfl⟩) (dg_preV sX_209 rfl K ST hP hS hA1 hA) rfl rfl hl.1 rfl (lv_room (Nat.le_of_ble_eq_true rfl)) dX6_readDig_15 ⟨Nat.le_of_ble_eq_true rfl, Nat.le_of_ble_eq_true rfl⟩) (fun x_33 S_34 hw_34 H locs hP hS => ?_)
    obtain ⟨I_34, m_34, w_34_0, -⟩ := hw_34
    have M_34 := dg_sm.tr M_0 m_34 (by decide) (by decide)
    have w_34_0 : 0 ≤ (x_33).toInt ∧ (x_33).toInt ≤ 0 := w_34_0
    refine W.widen (k := 0) (n := 0) (Nat.le_of_ble_eq_true rfl) (Nat.le_of_ble_eq_true rfl) ?_
    exact dg_iret hx hb hr hlocks (dk_znar (by omega) (by omega)) hP hS ⟨I_34, M_34, (by omega), ⟨n0, ((m_34.1 209 4 _ sX_209 (by decide)).trans f_n0), (by omega)⟩, trivial⟩ dX6_readDig_18
set_option maxHeartbeats 8000000 in
set_option maxRecDepth 100000 in
theorem c_rd_readOrder (l : Launch) (g : Nat → ClassId) (D : va_G) (o : Nat) (S : dg_S) (en : Int32) (n0 : Int32) (f_n0 : S.1 209 4 = .int n0) (b_n0 : 0 ≤ (n0).toInt ∧ (n0).toInt ≤ 1600) (ke : Int32) (f_ke : S.2.1 211 (en : Int32).toNatClampNeg = ke) (b_ke : 0 ≤ (ke).toInt ∧ (ke).toInt ≤ 0) (hne : (n0).toInt ≤ (en).toInt ∧ (en).toInt ≤ 1600 ∧ 0 ≤ (en).toInt) (I : CX o S) (sz : Nat) : Met l yX6_readOrder (bw yX6_readOrder cX6_readOrder 2 (some .boolean)) ({ frames := 4, cells := 0, slots := 0, locals := 96 } : Room) (dk_Pc g D (dg_w g shX o rfX S) sz [.ref (o + 209)]) (va_Qi (fun (r : Int32) S' => CX o S' ∧ dg_sm shX [(19, 11), (31, 0), (31, 1), (31, 4), (31, 5)] [24, 25, 26, 27] S S' ∧ (0 ≤ (r).toInt ∧ (r).toInt ≤ 1) ∧ (∃ y9 : Int32, S'.1 209 4 = .int y9 ∧ ((y9).toInt ≤ (en).toInt)) ∧ True) (dg_B g D shX o rfX) (dg_A o shX.length sz)) 0 0 (dg_A o shX.length sz) := by
  refine dg_met (cc := cX6_readOrder) (maxL := 2) (ret := (some .boolean)) (by decide) rfl (Nat.le_of_ble_eq_true rfl) ?_
  intro p e s m args below meth c A hAe harg hx hb hr hml hts hown hlocks hin hP K hS hA1 hA ST hsz ls hl
  rw [← hAe]
  have F : CallFix p m c cX6_readOrder 2 s args (bw yX6_readOrder cX6_readOrder 2 (some .boolean)) RX6 := ⟨hx, hb, hml, hown, hts⟩
  have hl : lv_has ls 2 [(0, .ref (o + 209))] := hl
  have M_0 : dg_sm shX [(19, 11), (31, 0), (31, 1), (31, 4), (31, 5)] [24, 25, 26, 27] S S := dg_sm.rf
  refine lv_aload_n hx hb dX6_readOrder_0 rfl (lv_at hl 0 rfl) ?_
  obtain ⟨d_1, hk_d_1, f_d_1⟩ := dg_I.one (i := 209) (k := 3) (d := 0) I sX_209 (by decide +kernel)
  have hk_d_1 : rX d_1 := hk_d_1
  refine dg_get (C := RX6) (T := TX6) (N := 8) hx hb hts (fun w h => bw_mem (wU_X6 w h)) hown K hP sX_209 rfl 3 (by decide) (hts _ (bw_mem wB_698)) (fun _ h9 => h9) (v := .ref (o + d_1)) f_d_1 dX6_readOrder_1 ?_
  obtain ⟨x_2, f_x_2, b_x_2⟩ := dg_I.int (i := d_1) (k := 11) (lo := 0) (hi := 5) I (rX_0 d_1 hk_d_1) (by decide +kernel)
  refine dg_get (C := RX2) (T := TX2) (N := 19) hx hb hts (fun w h => bw_mem (wU_X2 w h)) hown K hP (rX_0 d_1 hk_d_1) rfl 11 (by decide) (hts _ (bw_mem wB_739)) (fun _ h9 => h9) (v := .int x_2) f_x_2 dX6_readOrder_4 ?_
  refine lv_istore_n (lv' := [(1, .int x_2), (0, .ref (o + 209))]) hx hb dX6_readOrder_7 rfl hl (by decide) rfl (fun ls hl => ?_)
  refine lv_iload_n hx hb dX6_readOrder_8 rfl (lv_at hl 0 rfl) ?_
  refine lv_iconst (v := 5) hx hb dX6_readOrder_9 (by decide +kernel) ?_
  refine lv_icmp_ne (tgt := 20) hx hb dX6_readOrder_10 (by decide) (fun c_3 => ?_) (fun c_3 => ?_)
  · have jc_3 := dk_neqc (k := 5) (by decide +kernel) c_3
    refine lv_aload_n hx hb dX6_readOrder_20 rfl (lv_at hl 1 rfl) ?_
    refine dg_callv hS hA1 hA (va_runV (As := []) (rest := []) F (c_rd_pass l g D o S en n0 f_n0 (by omega) ke f_ke (by omega) (by omega) I s.heap.size) (cwV 0 hts (bw_V wB_686 wB_687 wB_688 wB_684 wB_685) rfl rfl rfl (by decide +kernel) ⟨Nat.le_of_ble_eq_true rfl, Nat.le_of_ble_eq_true rfl⟩) (dg_preV sX_209 rfl K ST hP hS hA1 hA) rfl rfl hl.1 rfl (lv_room (Nat.le_of_ble_eq_true rfl)) dX6_readOrder_21 ⟨Nat.le_of_ble_eq_true rfl, Nat.le_of_ble_eq_true rfl⟩) (fun S_4 hw_4 H locs hP hS => ?_)
    obtain ⟨I_4, m_4, w_4_0, -⟩ := hw_4
    have M_4 := dg_sm.tr M_0 m_4 (by decide) (by decide)
    obtain ⟨y_5, f_y_5, w_4_0⟩ := w_4_0
    have w_4_0 : (y_5).toInt ≤ (en).toInt := w_4_0
    have b_y_5 : 0 ≤ (y_5).toInt ∧ (y_5).toInt ≤ 1600 := dg_I.intb (lo := 0) (hi := 1600) I_4 sX_209 (by decide +kernel) f_y_5
    refine lv_aload_n hx hb dX6_readOrder_24 rfl (lv_at hl 1 rfl) ?_
    refine dg_calli hS hA1 hA (va_runV (As := []) (rest := []) F (c_rd_takeNewName l g D o S_4 en y_5 f_y_5 (by omega) ke ((congrFun (m_4.2 211 _ sX_211 (by decide)).1 _).trans f_ke) (by omega) (by omega) I_4 H.size) (cwV 0 hts (bw_V wB_728 wB_729 wB_730 wB_684 wB_727) rfl rfl rfl (by decide +kernel) ⟨Nat.le_of_ble_eq_true rfl, Nat.le_of_ble_eq_true rfl⟩) (dg_preV sX_209 rfl K ST hP hS hA1 hA) rfl rfl hl.1 rfl (lv_room (Nat.le_of_ble_eq_true rfl)) dX6_readOrder_25 ⟨Nat.le_of_ble_eq_true rfl, Nat.le_of_ble_eq_true rfl⟩) (fun x_6 S_7 hw_7 H locs hP hS => ?_)
    obtain ⟨I_7, m_7, w_7_0, w_7_1, -⟩ := hw_7
    have M_7 := dg_sm.tr M_4 m_7 (by decide) (by decide)
    have w_7_0 : 0 ≤ (x_6).toInt ∧ (x_6).toInt ≤ 1 := w_7_0
    obtain ⟨y_8, f_y_8, w_7_1⟩ := w_7_1
    have w_7_1 : (y_8).toInt ≤ (en).toInt := w_7_1
    have b_y_8 : 0 ≤ (y_8).toInt ∧ (y_8).toInt ≤ 1600 := dg_I.intb (lo := 0) (hi := 1600) I_7 sX_209 (by decide +kernel) f_y_8
    refine lv_if_ne (tgt := 33) hx hb dX6_readOrder_28 (by decide) (fun c_9 => ?_) (fun c_9 => ?_)
    · have jc_9 := dk_neqc (k := 0) (by decide +kernel) c_9
      refine lv_aload_n hx hb dX6_readOrder_33 rfl (lv_at hl 1 rfl) ?_
      refine dg_get (C := RX6) (T := TX6) (N := 8) hx hb hts (fun w h => bw_mem (wU_X6 w h)) hown K hP sX_209 rfl 3 (by decide) (hts _ (bw_mem wB_698)) (fun _ h9 => h9) (v := .ref (o + d_1)) (((m_7.1 209 3 _ sX_209 (by decide)).trans (m_4.1 209 3 _ sX_209 (by decide))).trans f_d_1) dX6_readOrder_34 ?_
      refine dg_get (C := RX2) (T := TX2) (N := 19) hx hb hts (fun w h => bw_mem (wU_X2 w h)) hown K hP (rX_0 d_1 hk_d_1) rfl 12 (by decide) (hts _ (bw_mem wB_740)) (fun _ h9 => h9) (v := .ref (o + (d_1 + 5))) (show S_7.1 d_1 12 = .ref (o + (d_1 + 5)) from dg_I.rel (d := 5) I_7 (rX_0 d_1 hk_d_1) (by decide +kernel)) dX6_readOrder_37 ?_
      refine lv_iload_n hx hb dX6_readOrder_40 rfl (lv_at hl 0 rfl) ?_
      refine lv_aload_n hx hb dX6_readOrder_41 rfl (lv_at hl 1 rfl) ?_
      obtain ⟨x_10, f_x_10, b_x_10⟩ := dg_I.int (i := 209) (k := 5) (lo := (-2147483648)) (hi := 2147483647) I_7 sX_209 (by decide +kernel)
      refine dg_get (C := RX6) (T := TX6) (N := 8) hx hb hts (fun w h => bw_mem (wU_X6 w h)) hown K hP sX_209 rfl 5 (by decide) (hts _ (bw_mem wB_700)) (fun _ h9 => h9) (v := .int x_10) f_x_10 dX6_readOrder_42 ?_
      have hin_11 : vp_in x_2 5 := (dk_inv (by omega) (by omega))
      refine dg_iast hx hb K hP hS hA1 (rX_5 d_1 hk_d_1) hin_11 dX6_readOrder_45 (fun S_12 e_12 H locs hP hS => ?_)
      have I_12 := dg_I.uf0 I_7 e_12 (rX_5 d_1 hk_d_1) (by decide +kernel)
      have M_12 := dg_sm.uf M_7 e_12 (rX_5 d_1 hk_d_1) (by decide)
      refine lv_aload_n hx hb dX6_readOrder_46 rfl (lv_at hl 1 rfl) ?_
      refine lv_iconst (v := 5) hx hb dX6_readOrder_47 (by decide +kernel) ?_
      refine dg_calli hS hA1 hA (va_runV (As := [.int 5]) (rest := []) F (c_rd_takeOwn l g D o S_12 5 en y_8 ((dg_uf_F e_12 209 4).trans f_y_8) (by omega) ke ((congrFun ((dg_uf_ne e_12 (fun z => by have h9 := sX_211; rw [z, (rX_5 d_1 hk_d_1)] at h9; cases h9)).trans ((m_7.2 211 _ sX_211 (by decide)).1.trans (m_4.2 211 _ sX_211 (by decide)).1)) _).trans f_ke) (by omega) (by omega) I_12 H.size) (cwV 1 hts (bw_V wB_715 wB_716 wB_717 wB_684 wB_714) rfl rfl rfl (by decide +kernel) ⟨Nat.le_of_ble_eq_true rfl, Nat.le_of_ble_eq_true rfl⟩) (dg_preV sX_209 rfl K ST hP hS hA1 hA) rfl rfl hl.1 rfl (lv_room (Nat.le_of_ble_eq_true rfl)) dX6_readOrder_48 ⟨Nat.le_of_ble_eq_true rfl, Nat.le_of_ble_eq_true rfl⟩) (fun x_13 S_14 hw_14 H locs hP hS => ?_)
      obtain ⟨I_14, m_14, w_14_0, w_14_1, -⟩ := hw_14
      have M_14 := dg_sm.tr M_12 m_14 (by decide) (by decide)
      have hz_15 : (5 : Int32).toInt = 5 := by decide +kernel
      have w_14_0 : 0 ≤ (x_13).toInt ∧ (x_13).toInt ≤ 1 := w_14_0
      obtain ⟨y_16, f_y_16, w_14_1⟩ := w_14_1
      have w_14_1 : (y_16).toInt ≤ (en).toInt := w_14_1
      have b_y_16 : 0 ≤ (y_16).toInt ∧ (y_16).toInt ≤ 1600 := dg_I.intb (lo := 0) (hi := 1600) I_14 sX_209 (by decide +kernel) f_y_16
      refine lv_if_eq (tgt := 64) hx hb dX6_readOrder_51 (by decide) (fun c_17 => ?_) (fun c_17 => ?_)
      · have jc_17 := dk_eqc (k := 0) (by decide +kernel) c_17
        refine lv_iconst (v := 0) hx hb dX6_readOrder_64 (by decide +kernel) ?_
        have hz_18 : (0 : Int32).toInt = 0 := by decide +kernel
        have hz_19 : (0 : Int32).toInt = 0 := by decide +kernel
        refine W.widen (k := 0) (n := 0) (Nat.le_of_ble_eq_true rfl) (Nat.le_of_ble_eq_true rfl) ?_
        exact dg_iret hx hb hr hlocks (by decide +kernel) hP hS ⟨I_14, M_14, (by decide +kernel), ⟨y_16, f_y_16, (by omega)⟩, trivial⟩ dX6_readOrder_65
      · have jc_17 := dk_neqc (k := 0) (by decide +kernel) c_17
        refine lv_aload_n hx hb dX6_readOrder_54 rfl (lv_at hl 1 rfl) ?_
        refine lv_iconst (v := 0) hx hb dX6_readOrder_55 (by decide +kernel) ?_
        refine lv_bipush (v := 9) hx hb dX6_readOrder_56 (by decide +kernel) ?_
        refine dg_calli hS hA1 hA (va_runV (As := [.int 0, .int 9]) (rest := []) F (c_rd_takeNumber l g D o S_14 0 9 en y_16 f_y_16 (by omega) ke ((congrFun ((m_14.2 211 _ sX_211 (by decide)).1.trans ((dg_uf_ne e_12 (fun z => by have h9 := sX_211; rw [z, (rX_5 d_1 hk_d_1)] at h9; cases h9)).trans ((m_7.2 211 _ sX_211 (by decide)).1.trans (m_4.2 211 _ sX_211 (by decide)).1))) _).trans f_ke) (by omega) (by omega) I_14 H.size) (cwV 2 hts (bw_V wB_708 wB_709 wB_710 wB_684 wB_707) rfl rfl rfl (by decide +kernel) ⟨Nat.le_of_ble_eq_true rfl, Nat.le_of_ble_eq_true rfl⟩) (dg_preV sX_209 rfl K ST hP hS hA1 hA) rfl rfl hl.1 rfl (lv_room (Nat.le_of_ble_eq_true rfl)) dX6_readOrder_58 ⟨Nat.le_of_ble_eq_true rfl, Nat.le_of_ble_eq_true rfl⟩) (fun x_20 S_21 hw_21 H locs hP hS => ?_)
        obtain ⟨I_21, m_21, w_21_0, w_21_1, w_21_2, -⟩ := hw_21
        have M_21 := dg_sm.tr M_14 m_21 (by decide) (by decide)
        have hz_22 : (0 : Int32).toInt = 0 := by decide +kernel
        have hz_23 : (9 : Int32).toInt = 9 := by decide +kernel
        have w_21_0 : 0 ≤ (x_20).toInt ∧ (x_20).toInt ≤ 1 := w_21_0
        obtain ⟨y_24, f_y_24, w_21_1⟩ := w_21_1
        have w_21_1 : (x_20).toInt = 1 → (((0 : Int32)).toInt ≤ (y_24).toInt ∧ (y_24).toInt ≤ ((9 : Int32)).toInt) := w_21_1
        obtain ⟨y_25, f_y_25, w_21_2⟩ := w_21_2
        have w_21_2 : (y_25).toInt ≤ (en).toInt := w_21_2
        have b_y_25 : 0 ≤ (y_25).toInt ∧ (y_25).toInt ≤ 1600 := dg_I.intb (lo := 0) (hi := 1600) I_21 sX_209 (by decide +kernel) f_y_25
        refine lv_if_ne (tgt := 66) hx hb dX6_readOrder_61 (by decide) (fun c_26 => ?_) (fun c_26 => ?_)
        · have jc_26 := dk_neqc (k := 0) (by decide +kernel) c_26
          refine lv_aload_n hx hb dX6_readOrder_66 rfl (lv_at hl 1 rfl) ?_
          refine dg_get (C := RX6) (T := TX6) (N := 8) hx hb hts (fun w h => bw_mem (wU_X6 w h)) hown K hP sX_209 rfl 3 (by decide) (hts _ (bw_mem wB_698)) (fun _ h9 => h9) (v := .ref (o + d_1)) (((m_21.1 209 3 _ sX_209 (by decide)).trans ((m_14.1 209 3 _ sX_209 (by decide)).trans ((dg_uf_F e_12 209 3).trans ((m_7.1 209 3 _ sX_209 (by decide)).trans (m_4.1 209 3 _ sX_209 (by decide)))))).trans f_d_1) dX6_readOrder_67 ?_
          refine dg_get (C := RX2) (T := TX2) (N := 19) hx hb hts (fun w h => bw_mem (wU_X2 w h)) hown K hP (rX_0 d_1 hk_d_1) rfl 13 (by decide) (hts _ (bw_mem wB_741)) (fun _ h9 => h9) (v := .ref (o + (d_1 + 6))) (show S_21.1 d_1 13 = .ref (o + (d_1 + 6)) from dg_I.rel (d := 6) I_21 (rX_0 d_1 hk_d_1) (by decide +kernel)) dX6_readOrder_70 ?_
          refine lv_iload_n hx hb dX6_readOrder_73 rfl (lv_at hl 0 rfl) ?_
          refine lv_aload_n hx hb dX6_readOrder_74 rfl (lv_at hl 1 rfl) ?_
          refine dg_get (C := RX6) (T := TX6) (N := 8) hx hb hts (fun w h => bw_mem (wU_X6 w h)) hown K hP sX_209 rfl 5 (by decide) (hts _ (bw_mem wB_700)) (fun _ h9 => h9) (v := .int y_24) f_y_24 dX6_readOrder_75 ?_
          have hin_27 : vp_in x_2 5 := (dk_inv (by omega) (by omega))
          refine dg_iast hx hb K hP hS hA1 (rX_6 d_1 hk_d_1) hin_27 dX6_readOrder_78 (fun S_28 e_28 H locs hP hS => ?_)
          have I_28 := dg_I.ufu (lo := 0) (hi := 9) I_21 e_28 (rX_6 d_1 hk_d_1) (by decide +kernel) (show 0 ≤ (y_24).toInt ∧ (y_24).toInt ≤ 9 from (by omega))
          have M_28 := dg_sm.uf M_21 e_28 (rX_6 d_1 hk_d_1) (by decide)
          refine lv_aload_n hx hb dX6_readOrder_79 rfl (lv_at hl 1 rfl) ?_
          refine lv_bipush (v := 10) hx hb dX6_readOrder_80 (by decide +kernel) ?_
          refine dg_calli hS hA1 hA (va_runV (As := [.int 10]) (rest := []) F (c_rd_takeOwn l g D o S_28 10 en y_25 ((dg_uf_F e_28 209 4).trans f_y_25) (by omega) ke ((congrFun ((dg_uf_ne e_28 (fun z => by have h9 := sX_211; rw [z, (rX_6 d_1 hk_d_1)] at h9; cases h9)).trans ((m_21.2 211 _ sX_211 (by decide)).1.trans ((m_14.2 211 _ sX_211 (by decide)).1.trans ((dg_uf_ne e_12 (fun z => by have h9 := sX_211; rw [z, (rX_5 d_1 hk_d_1)] at h9; cases h9)).trans ((m_7.2 211 _ sX_211 (by decide)).1.trans (m_4.2 211 _ sX_211 (by decide)).1))))) _).trans f_ke) (by omega) (by omega) I_28 H.size) (cwV 1 hts (bw_V wB_715 wB_716 wB_717 wB_684 wB_714) rfl rfl rfl (by decide +kernel) ⟨Nat.le_of_ble_eq_true rfl, Nat.le_of_ble_eq_true rfl⟩) (dg_preV sX_209 rfl K ST hP hS hA1 hA) rfl rfl hl.1 rfl (lv_room (Nat.le_of_ble_eq_true rfl)) dX6_readOrder_82 ⟨Nat.le_of_ble_eq_true rfl, Nat.le_of_ble_eq_true rfl⟩) (fun x_29 S_30 hw_30 H locs hP hS => ?_)
          obtain ⟨I_30, m_30, w_30_0, w_30_1, -⟩ := hw_30
          have M_30 := dg_sm.tr M_28 m_30 (by decide) (by decide)
          have hz_31 : (10 : Int32).toInt = 10 := by decide +kernel
          have w_30_0 : 0 ≤ (x_29).toInt ∧ (x_29).toInt ≤ 1 := w_30_0
          obtain ⟨y_32, f_y_32, w_30_1⟩ := w_30_1
          have w_30_1 : (y_32).toInt ≤ (en).toInt := w_30_1
          have b_y_32 : 0 ≤ (y_32).toInt ∧ (y_32).toInt ≤ 1600 := dg_I.intb (lo := 0) (hi := 1600) I_30 sX_209 (by decide +kernel) f_y_32
          refine lv_if_eq (tgt := 98) hx hb dX6_readOrder_85 (by decide) (fun c_33 => ?_) (fun c_33 => ?_)
          · have jc_33 := dk_eqc (k := 0) (by decide +kernel) c_33
            refine lv_iconst (v := 0) hx hb dX6_readOrder_98 (by decide +kernel) ?_
            have hz_34 : (0 : Int32).toInt = 0 := by decide +kernel
            have hz_35 : (0 : Int32).toInt = 0 := by decide +kernel
            refine W.widen (k := 0) (n := 0) (Nat.le_of_ble_eq_true rfl) (Nat.le_of_ble_eq_true rfl) ?_
            exact dg_iret hx hb hr hlocks (by decide +kernel) hP hS ⟨I_30, M_30, (by decide +kernel), ⟨y_32, f_y_32, (by omega)⟩, trivial⟩ dX6_readOrder_99
          · have jc_33 := dk_neqc (k := 0) (by decide +kernel) c_33
            refine lv_aload_n hx hb dX6_readOrder_88 rfl (lv_at hl 1 rfl) ?_
            refine lv_iconst (v := 1) hx hb dX6_readOrder_89 (by decide +kernel) ?_
            refine lv_bipush (v := 9) hx hb dX6_readOrder_90 (by decide +kernel) ?_
            refine dg_calli hS hA1 hA (va_runV (As := [.int 1, .int 9]) (rest := []) F (c_rd_takeNumber l g D o S_30 1 9 en y_32 f_y_32 (by omega) ke ((congrFun ((m_30.2 211 _ sX_211 (by decide)).1.trans ((dg_uf_ne e_28 (fun z => by have h9 := sX_211; rw [z, (rX_6 d_1 hk_d_1)] at h9; cases h9)).trans ((m_21.2 211 _ sX_211 (by decide)).1.trans ((m_14.2 211 _ sX_211 (by decide)).1.trans ((dg_uf_ne e_12 (fun z => by have h9 := sX_211; rw [z, (rX_5 d_1 hk_d_1)] at h9; cases h9)).trans ((m_7.2 211 _ sX_211 (by decide)).1.trans (m_4.2 211 _ sX_211 (by decide)).1)))))) _).trans f_ke) (by omega) (by omega) I_30 H.size) (cwV 2 hts (bw_V wB_708 wB_709 wB_710 wB_684 wB_707) rfl rfl rfl (by decide +kernel) ⟨Nat.le_of_ble_eq_true rfl, Nat.le_of_ble_eq_true rfl⟩) (dg_preV sX_209 rfl K ST hP hS hA1 hA) rfl rfl hl.1 rfl (lv_room (Nat.le_of_ble_eq_true rfl)) dX6_readOrder_92 ⟨Nat.le_of_ble_eq_true rfl, Nat.le_of_ble_eq_true rfl⟩) (fun x_36 S_37 hw_37 H locs hP hS => ?_)
            obtain ⟨I_37, m_37, w_37_0, w_37_1, w_37_2, -⟩ := hw_37
            have M_37 := dg_sm.tr M_30 m_37 (by decide) (by decide)
            have hz_38 : (1 : Int32).toInt = 1 := by decide +kernel
            have hz_39 : (9 : Int32).toInt = 9 := by decide +kernel
            have w_37_0 : 0 ≤ (x_36).toInt ∧ (x_36).toInt ≤ 1 := w_37_0
            obtain ⟨y_40, f_y_40, w_37_1⟩ := w_37_1
            have w_37_1 : (x_36).toInt = 1 → (((1 : Int32)).toInt ≤ (y_40).toInt ∧ (y_40).toInt ≤ ((9 : Int32)).toInt) := w_37_1
            obtain ⟨y_41, f_y_41, w_37_2⟩ := w_37_2
            have w_37_2 : (y_41).toInt ≤ (en).toInt := w_37_2
            have b_y_41 : 0 ≤ (y_41).toInt ∧ (y_41).toInt ≤ 1600 := dg_I.intb (lo := 0) (hi := 1600) I_37 sX_209 (by decide +kernel) f_y_41
            refine lv_if_ne (tgt := 100) hx hb dX6_readOrder_95 (by decide) (fun c_42 => ?_) (fun c_42 => ?_)
            · have jc_42 := dk_neqc (k := 0) (by decide +kernel) c_42
              refine lv_aload_n hx hb dX6_readOrder_100 rfl (lv_at hl 1 rfl) ?_
              refine dg_get (C := RX6) (T := TX6) (N := 8) hx hb hts (fun w h => bw_mem (wU_X6 w h)) hown K hP sX_209 rfl 3 (by decide) (hts _ (bw_mem wB_698)) (fun _ h9 => h9) (v := .ref (o + d_1)) (((m_37.1 209 3 _ sX_209 (by decide)).trans ((m_30.1 209 3 _ sX_209 (by decide)).trans ((dg_uf_F e_28 209 3).trans ((m_21.1 209 3 _ sX_209 (by decide)).trans ((m_14.1 209 3 _ sX_209 (by decide)).trans ((dg_uf_F e_12 209 3).trans ((m_7.1 209 3 _ sX_209 (by decide)).trans (m_4.1 209 3 _ sX_209 (by decide))))))))).trans f_d_1) dX6_readOrder_101 ?_
              refine dg_get (C := RX2) (T := TX2) (N := 19) hx hb hts (fun w h => bw_mem (wU_X2 w h)) hown K hP (rX_0 d_1 hk_d_1) rfl 14 (by decide) (hts _ (bw_mem wB_742)) (fun _ h9 => h9) (v := .ref (o + (d_1 + 7))) (show S_37.1 d_1 14 = .ref (o + (d_1 + 7)) from dg_I.rel (d := 7) I_37 (rX_0 d_1 hk_d_1) (by decide +kernel)) dX6_readOrder_104 ?_
              refine lv_iload_n hx hb dX6_readOrder_107 rfl (lv_at hl 0 rfl) ?_
              refine lv_aload_n hx hb dX6_readOrder_108 rfl (lv_at hl 1 rfl) ?_
              refine dg_get (C := RX6) (T := TX6) (N := 8) hx hb hts (fun w h => bw_mem (wU_X6 w h)) hown K hP sX_209 rfl 5 (by decide) (hts _ (bw_mem wB_700)) (fun _ h9 => h9) (v := .int y_40) f_y_40 dX6_readOrder_109 ?_
              have hin_43 : vp_in x_2 5 := (dk_inv (by omega) (by omega))
              refine dg_iast hx hb K hP hS hA1 (rX_7 d_1 hk_d_1) hin_43 dX6_readOrder_112 (fun S_44 e_44 H locs hP hS => ?_)
              have I_44 := dg_I.uf0 I_37 e_44 (rX_7 d_1 hk_d_1) (by decide +kernel)
              have M_44 := dg_sm.uf M_37 e_44 (rX_7 d_1 hk_d_1) (by decide)
              refine lv_aload_n hx hb dX6_readOrder_113 rfl (lv_at hl 1 rfl) ?_
              refine lv_bipush (v := 11) hx hb dX6_readOrder_114 (by decide +kernel) ?_
              refine dg_calli hS hA1 hA (va_runV (As := [.int 11]) (rest := []) F (c_rd_takeOwn l g D o S_44 11 en y_41 ((dg_uf_F e_44 209 4).trans f_y_41) (by omega) ke ((congrFun ((dg_uf_ne e_44 (fun z => by have h9 := sX_211; rw [z, (rX_7 d_1 hk_d_1)] at h9; cases h9)).trans ((m_37.2 211 _ sX_211 (by decide)).1.trans ((m_30.2 211 _ sX_211 (by decide)).1.trans ((dg_uf_ne e_28 (fun z => by have h9 := sX_211; rw [z, (rX_6 d_1 hk_d_1)] at h9; cases h9)).trans ((m_21.2 211 _ sX_211 (by decide)).1.trans ((m_14.2 211 _ sX_211 (by decide)).1.trans ((dg_uf_ne e_12 (fun z => by have h9 := sX_211; rw [z, (rX_5 d_1 hk_d_1)] at h9; cases h9)).trans ((m_7.2 211 _ sX_211 (by decide)).1.trans (m_4.2 211 _ sX_211 (by decide)).1)))))))) _).trans f_ke) (by omega) (by omega) I_44 H.size) (cwV 1 hts (bw_V wB_715 wB_716 wB_717 wB_684 wB_714) rfl rfl rfl (by decide +kernel) ⟨Nat.le_of_ble_eq_true rfl, Nat.le_of_ble_eq_true rfl⟩) (dg_preV sX_209 rfl K ST hP hS hA1 hA) rfl rfl hl.1 rfl (lv_room (Nat.le_of_ble_eq_true rfl)) dX6_readOrder_116 ⟨Nat.le_of_ble_eq_true rfl, Nat.le_of_ble_eq_true rfl⟩) (fun x_45 S_46 hw_46 H locs hP hS => ?_)
              obtain ⟨I_46, m_46, w_46_0, w_46_1, -⟩ := hw_46
              have M_46 := dg_sm.tr M_44 m_46 (by decide) (by decide)
              have hz_47 : (11 : Int32).toInt = 11 := by decide +kernel
              have w_46_0 : 0 ≤ (x_45).toInt ∧ (x_45).toInt ≤ 1 := w_46_0
              obtain ⟨y_48, f_y_48, w_46_1⟩ := w_46_1
              have w_46_1 : (y_48).toInt ≤ (en).toInt := w_46_1
              have b_y_48 : 0 ≤ (y_48).toInt ∧ (y_48).toInt ≤ 1600 := dg_I.intb (lo := 0) (hi := 1600) I_46 sX_209 (by decide +kernel) f_y_48
              refine lv_if_eq (tgt := 133) hx hb dX6_readOrder_119 (by decide) (fun c_49 => ?_) (fun c_49 => ?_)
              · have jc_49 := dk_eqc (k := 0) (by decide +kernel) c_49
                refine lv_iconst (v := 0) hx hb dX6_readOrder_133 (by decide +kernel) ?_
                have hz_50 : (0 : Int32).toInt = 0 := by decide +kernel
                have hz_51 : (0 : Int32).toInt = 0 := by decide +kernel
                refine W.widen (k := 0) (n := 0) (Nat.le_of_ble_eq_true rfl) (Nat.le_of_ble_eq_true rfl) ?_
                exact dg_iret hx hb hr hlocks (by decide +kernel) hP hS ⟨I_46, M_46, (by decide +kernel), ⟨y_48, f_y_48, (by omega)⟩, trivial⟩ dX6_readOrder_134
              · have jc_49 := dk_neqc (k := 0) (by decide +kernel) c_49
                refine lv_aload_n hx hb dX6_readOrder_122 rfl (lv_at hl 1 rfl) ?_
                refine lv_iconst (v := 0) hx hb dX6_readOrder_123 (by decide +kernel) ?_
                refine lv_sipush (v := 999) hx hb dX6_readOrder_124 (by decide +kernel) ?_
                refine dg_calli hS hA1 hA (va_runV (As := [.int 0, .int 999]) (rest := []) F (c_rd_takeNumber l g D o S_46 0 999 en y_48 f_y_48 (by omega) ke ((congrFun ((m_46.2 211 _ sX_211 (by decide)).1.trans ((dg_uf_ne e_44 (fun z => by have h9 := sX_211; rw [z, (rX_7 d_1 hk_d_1)] at h9; cases h9)).trans ((m_37.2 211 _ sX_211 (by decide)).1.trans ((m_30.2 211 _ sX_211 (by decide)).1.trans ((dg_uf_ne e_28 (fun z => by have h9 := sX_211; rw [z, (rX_6 d_1 hk_d_1)] at h9; cases h9)).trans ((m_21.2 211 _ sX_211 (by decide)).1.trans ((m_14.2 211 _ sX_211 (by decide)).1.trans ((dg_uf_ne e_12 (fun z => by have h9 := sX_211; rw [z, (rX_5 d_1 hk_d_1)] at h9; cases h9)).trans ((m_7.2 211 _ sX_211 (by decide)).1.trans (m_4.2 211 _ sX_211 (by decide)).1))))))))) _).trans f_ke) (by omega) (by omega) I_46 H.size) (cwV 2 hts (bw_V wB_708 wB_709 wB_710 wB_684 wB_707) rfl rfl rfl (by decide +kernel) ⟨Nat.le_of_ble_eq_true rfl, Nat.le_of_ble_eq_true rfl⟩) (dg_preV sX_209 rfl K ST hP hS hA1 hA) rfl rfl hl.1 rfl (lv_room (Nat.le_of_ble_eq_true rfl)) dX6_readOrder_127 ⟨Nat.le_of_ble_eq_true rfl, Nat.le_of_ble_eq_true rfl⟩) (fun x_52 S_53 hw_53 H locs hP hS => ?_)
                obtain ⟨I_53, m_53, w_53_0, w_53_1, w_53_2, -⟩ := hw_53
                have M_53 := dg_sm.tr M_46 m_53 (by decide) (by decide)
                have hz_54 : (0 : Int32).toInt = 0 := by decide +kernel
                have hz_55 : (999 : Int32).toInt = 999 := by decide +kernel
                have w_53_0 : 0 ≤ (x_52).toInt ∧ (x_52).toInt ≤ 1 := w_53_0
                obtain ⟨y_56, f_y_56, w_53_1⟩ := w_53_1
                have w_53_1 : (x_52).toInt = 1 → (((0 : Int32)).toInt ≤ (y_56).toInt ∧ (y_56).toInt ≤ ((999 : Int32)).toInt) := w_53_1
                obtain ⟨y_57, f_y_57, w_53_2⟩ := w_53_2
                have w_53_2 : (y_57).toInt ≤ (en).toInt := w_53_2
                have b_y_57 : 0 ≤ (y_57).toInt ∧ (y_57).toInt ≤ 1600 := dg_I.intb (lo := 0) (hi := 1600) I_53 sX_209 (by decide +kernel) f_y_57
                refine lv_if_ne (tgt := 135) hx hb dX6_readOrder_130 (by decide) (fun c_58 => ?_) (fun c_58 => ?_)
                · have jc_58 := dk_neqc (k := 0) (by decide +kernel) c_58
                  refine lv_aload_n hx hb dX6_readOrder_135 rfl (lv_at hl 1 rfl) ?_
                  refine dg_get (C := RX6) (T := TX6) (N := 8) hx hb hts (fun w h => bw_mem (wU_X6 w h)) hown K hP sX_209 rfl 3 (by decide) (hts _ (bw_mem wB_698)) (fun _ h9 => h9) (v := .ref (o + d_1)) (((m_53.1 209 3 _ sX_209 (by decide)).trans ((m_46.1 209 3 _ sX_209 (by decide)).trans ((dg_uf_F e_44 209 3).trans ((m_37.1 209 3 _ sX_209 (by decide)).trans ((m_30.1 209 3 _ sX_209 (by decide)).trans ((dg_uf_F e_28 209 3).trans ((m_21.1 209 3 _ sX_209 (by decide)).trans ((m_14.1 209 3 _ sX_209 (by decide)).trans ((dg_uf_F e_12 209 3).trans ((m_7.1 209 3 _ sX_209 (by decide)).trans (m_4.1 209 3 _ sX_209 (by decide)))))))))))).trans f_d_1) dX6_readOrder_136 ?_
                  refine dg_get (C := RX2) (T := TX2) (N := 19) hx hb hts (fun w h => bw_mem (wU_X2 w h)) hown K hP (rX_0 d_1 hk_d_1) rfl 15 (by decide) (hts _ (bw_mem wB_743)) (fun _ h9 => h9) (v := .ref (o + (d_1 + 8))) (show S_53.1 d_1 15 = .ref (o + (d_1 + 8)) from dg_I.rel (d := 8) I_53 (rX_0 d_1 hk_d_1) (by decide +kernel)) dX6_readOrder_139 ?_
                  refine lv_iload_n hx hb dX6_readOrder_142 rfl (lv_at hl 0 rfl) ?_
                  refine lv_aload_n hx hb dX6_readOrder_143 rfl (lv_at hl 1 rfl) ?_
                  refine dg_get (C := RX6) (T := TX6) (N := 8) hx hb hts (fun w h => bw_mem (wU_X6 w h)) hown K hP sX_209 rfl 5 (by decide) (hts _ (bw_mem wB_700)) (fun _ h9 => h9) (v := .int y_56) f_y_56 dX6_readOrder_144 ?_
                  have hin_59 : vp_in x_2 5 := (dk_inv (by omega) (by omega))
                  refine dg_iast hx hb K hP hS hA1 (rX_8 d_1 hk_d_1) hin_59 dX6_readOrder_147 (fun S_60 e_60 H locs hP hS => ?_)
                  have I_60 := dg_I.uf0 I_53 e_60 (rX_8 d_1 hk_d_1) (by decide +kernel)
                  have M_60 := dg_sm.uf M_53 e_60 (rX_8 d_1 hk_d_1) (by decide)
                  refine lv_aload_n hx hb dX6_readOrder_148 rfl (lv_at hl 1 rfl) ?_
                  refine dg_get (C := RX6) (T := TX6) (N := 8) hx hb hts (fun w h => bw_mem (wU_X6 w h)) hown K hP sX_209 rfl 3 (by decide) (hts _ (bw_mem wB_698)) (fun _ h9 => h9) (v := .ref (o + d_1)) (((dg_uf_F e_60 209 3).trans ((m_53.1 209 3 _ sX_209 (by decide)).trans ((m_46.1 209 3 _ sX_209 (by decide)).trans ((dg_uf_F e_44 209 3).trans ((m_37.1 209 3 _ sX_209 (by decide)).trans ((m_30.1 209 3 _ sX_209 (by decide)).trans ((dg_uf_F e_28 209 3).trans ((m_21.1 209 3 _ sX_209 (by decide)).trans ((m_14.1 209 3 _ sX_209 (by decide)).trans ((dg_uf_F e_12 209 3).trans ((m_7.1 209 3 _ sX_209 (by decide)).trans (m_4.1 209 3 _ sX_209 (by decide))))))))))))).trans f_d_1) dX6_readOrder_149 ?_
                  refine lv_dup hx hb dX6_readOrder_152 rfl ?_
                  refine dg_get (C := RX2) (T := TX2) (N := 19) hx hb hts (fun w h => bw_mem (wU_X2 w h)) hown K hP (rX_0 d_1 hk_d_1) rfl 11 (by decide) (hts _ (bw_mem wB_739)) (fun _ h9 => h9) (v := .int x_2) (((dg_uf_F e_60 d_1 11).trans ((m_53.1 d_1 11 _ (rX_0 d_1 hk_d_1) (by decide)).trans ((m_46.1 d_1 11 _ (rX_0 d_1 hk_d_1) (by decide)).trans ((dg_uf_F e_44 d_1 11).trans ((m_37.1 d_1 11 _ (rX_0 d_1 hk_d_1) (by decide)).trans ((m_30.1 d_1 11 _ (rX_0 d_1 hk_d_1) (by decide)).trans ((dg_uf_F e_28 d_1 11).trans ((m_21.1 d_1 11 _ (rX_0 d_1 hk_d_1) (by decide)).trans ((m_14.1 d_1 11 _ (rX_0 d_1 hk_d_1) (by decide)).trans ((dg_uf_F e_12 d_1 11).trans ((m_7.1 d_1 11 _ (rX_0 d_1 hk_d_1) (by decide)).trans (m_4.1 d_1 11 _ (rX_0 d_1 hk_d_1) (by decide))))))))))))).trans f_x_2) dX6_readOrder_153 ?_
                  refine lv_iconst (v := 1) hx hb dX6_readOrder_156 (by decide +kernel) ?_
                  refine lv_iadd hx hb dX6_readOrder_157 ?_
                  refine lv_topi (fun x_61 ex_61 => ?_)
                  have jx_61 : (x_61).toInt = (x_2).toInt + 1 := by rw [ex_61]; exact dk_addT rfl (by decide +kernel) (by omega) (by omega)
                  refine dg_put (ci := 2) (v := .int x_61) (ty := tyX2 11) (C := RX2) (T := TX2) (N := 19) hx hb hts (fun w h => bw_mem (wU_X2 w h)) tyX2 tyX2_ok nmX2 hown K hP hS hA1 (rX_0 d_1 hk_d_1) rfl 11 (by decide) (hts _ (bw_mem wB_739)) (fun _ h9 => h9) rfl (by decide +kernel) rfl rfl dX6_readOrder_158 (fun S_62 e_62 H locs hP hS => ?_)
                  have I_62 := dg_I.uFi (lo := 0) (hi := 5) I_60 e_62 (rX_0 d_1 hk_d_1) (by decide +kernel) (show 0 ≤ (x_61).toInt ∧ (x_61).toInt ≤ 5 from (by omega))
                  have M_62 := dg_sm.uF M_60 e_62 (rX_0 d_1 hk_d_1) (by decide)
                  refine lv_iconst (v := 1) hx hb dX6_readOrder_161 (by decide +kernel) ?_
                  have hz_63 : (1 : Int32).toInt = 1 := by decide +kernel
                  have hz_64 : (1 : Int32).toInt = 1 := by decide +kernel
                  refine W.widen (k := 0) (n := 0) (Nat.le_of_ble_eq_true rfl) (Nat.le_of_ble_eq_true rfl) ?_
                  exact dg_iret hx hb hr hlocks (by decide +kernel) hP hS ⟨I_62, M_62, (by decide +kernel), ⟨y_57, (((dg_uF_ne e_62 (fun z => absurd z.2 (by decide))).trans (dg_uf_F e_60 209 4)).trans f_y_57), (by omega)⟩, trivial⟩ dX6_readOrder_162
                · have jc_58 := dk_eqc (k := 0) (by decide +kernel) c_58
                  refine lv_iconst (v := 0) hx hb dX6_readOrder_133 (by decide +kernel) ?_
                  have hz_65 : (0 : Int32).toInt = 0 := by decide +kernel
                  have hz_66 : (0 : Int32).toInt = 0 := by decide +kernel
                  refine W.widen (k := 0) (n := 0) (Nat.le_of_ble_eq_true rfl) (Nat.le_of_ble_eq_true rfl) ?_
                  exact dg_iret hx hb hr hlocks (by decide +kernel) hP hS ⟨I_53, M_53, (by decide +kernel), ⟨y_57, f_y_57, (by omega)⟩, trivial⟩ dX6_readOrder_134
            · have jc_42 := dk_eqc (k := 0) (by decide +kernel) c_42
              refine lv_iconst (v := 0) hx hb dX6_readOrder_98 (by decide +kernel) ?_
              have hz_67 : (0 : Int32).toInt = 0 := by decide +kernel
              have hz_68 : (0 : Int32).toInt = 0 := by decide +kernel
              refine W.widen (k := 0) (n := 0) (Nat.le_of_ble_eq_true rfl) (Nat.le_of_ble_eq_true rfl) ?_
              exact dg_iret hx hb hr hlocks (by decide +kernel) hP hS ⟨I_37, M_37, (by decide +kernel), ⟨y_41, f_y_41, (by omega)⟩, trivial⟩ dX6_readOrder_99
        · have jc_26 := dk_eqc (k := 0) (by decide +kernel) c_26
          refine lv_iconst (v := 0) hx hb dX6_readOrder_64 (by decide +kernel) ?_
          have hz_69 : (0 : Int32).toInt = 0 := by decide +kernel
          have hz_70 : (0 : Int32).toInt = 0 := by decide +kernel
          refine W.widen (k := 0) (n := 0) (Nat.le_of_ble_eq_true rfl) (Nat.le_of_ble_eq_true rfl) ?_
          exact dg_iret hx hb hr hlocks (by decide +kernel) hP hS ⟨I_21, M_21, (by decide +kernel), ⟨y_25, f_y_25, (by omega)⟩, trivial⟩ dX6_readOrder_65
    · have jc_9 := dk_eqc (k := 0) (by decide +kernel) c_9
      refine lv_iconst (v := 0) hx hb dX6_readOrder_31 (by decide +kernel) ?_
      have hz_71 : (0 : Int32).toInt = 0 := by decide +kernel
      have hz_72 : (0 : Int32).toInt = 0 := by decide +kernel
      refine W.widen (k := 0) (n := 0) (Nat.le_of_ble_eq_true rfl) (Nat.le_of_ble_eq_true rfl) ?_
      exact dg_iret hx hb hr hlocks (by decide +kernel) hP hS ⟨I_7, M_7, (by decide +kernel), ⟨y_8, f_y_8, (by omega)⟩, trivial⟩ dX6_readOrder_32
  · have jc_3 := dk_eqc (k := 5) (by decide +kernel) c_3
    refine lv_aload_n hx hb dX6_readOrder_13 rfl (lv_at hl 1 rfl) ?_
    refine lv_bipush (v := 6) hx hb dX6_readOrder_14 (by decide +kernel) ?_
    refine dg_calli hS hA1 hA (va_runV (As := [.int 6]) (rest := []) F (c_rd_fail l g D o S 6 en n0 f_n0 (by omega) ke f_ke (by omega) (by omega) I s.heap.size) (cwV 1 hts (bw_V wB_690 wB_691 wB_692 wB_684 wB_689) rfl rfl rfl (by decide +kernel) ⟨Nat.le_of_ble_eq_true rfl, Nat.le_of_ble_eq_true rfl⟩) (dg_preV sX_209 rfl K ST hP hS hA1 hA) rfl rfl hl.1 rfl (lv_room (Nat.le_of_ble_eq_true rfl)) dX6_readOrder_16 ⟨Nat.le_of_ble_eq_true rfl, Nat.le_of_ble_eq_true rfl⟩) (fun x_73 S_74 hw_74 H locs hP hS => ?_)
    obtain ⟨I_74, m_74, w_74_0, -⟩ := hw_74
    have M_74 := dg_sm.tr M_0 m_74 (by decide) (by decide)
    have w_74_0 : 0 ≤ (x_73).toInt ∧ (x_73).toInt ≤ 0 := w_74_0
    refine W.widen (k := 0) (n := 0) (Nat.le_of_ble_eq_true rfl) (Nat.le_of_ble_eq_true rfl) ?_
    exact dg_iret hx hb hr hlocks (dk_znar (by omega) (by omega)) hP hS ⟨I_74, M_74, (by omega), ⟨n0, ((m_74.1 209 4 _ sX_209 (by decide)).trans f_n0), (by omega)⟩, trivial⟩ dX6_readOrder_19
