/-! 17.dark1.lean.txt -/
def RJ6 : String := "java/lang/Integer"
abbrev cJ6_bitCount_0f7a4 : ByteArray := prog_15_method_49_code
def yJ6_bitCount_0f7a4 : MethodName := ⟨RJ6, "bitCount", "(I)I"⟩
theorem dX11_none_0 : decode cX11_none 0 = .ok (.aload_n 0, 1) := dk_o42 (by decide +kernel)
theorem dX11_none_1 : decode cX11_none 1 = .ok (.getfield 42, 3) := dk_o180 (by decide +kernel)
theorem dX11_none_4 : decode cX11_none 4 = .ok (.iload_n 1, 1) := dk_o27 (by decide +kernel)
theorem dX11_none_5 : decode cX11_none 5 = .ok (.dup2, 1) := dk_o92 (by decide +kernel)
theorem dX11_none_6 : decode cX11_none 6 = .ok (.iaload, 1) := dk_o46 (by decide +kernel)
theorem dX11_none_7 : decode cX11_none 7 = .ok (.iconst 1, 1) := dk_o4 (by decide +kernel)
theorem dX11_none_8 : decode cX11_none 8 = .ok (.iadd, 1) := dk_o96 (by decide +kernel)
theorem dX11_none_9 : decode cX11_none 9 = .ok (.iastore, 1) := dk_o79 (by decide +kernel)
theorem dX11_none_10 : decode cX11_none 10 = .ok (.iconst (-1), 1) := dk_o2 (by decide +kernel)
theorem dX11_none_11 : decode cX11_none 11 = .ok (.ireturn, 1) := dk_o172 (by decide +kernel)
theorem dX11_no_0 : decode cX11_no 0 = .ok (.aload_n 0, 1) := dk_o42 (by decide +kernel)
theorem dX11_no_1 : decode cX11_no 1 = .ok (.getfield 42, 3) := dk_o180 (by decide +kernel)
theorem dX11_no_4 : decode cX11_no 4 = .ok (.iload_n 1, 1) := dk_o27 (by decide +kernel)
theorem dX11_no_5 : decode cX11_no 5 = .ok (.dup2, 1) := dk_o92 (by decide +kernel)
theorem dX11_no_6 : decode cX11_no 6 = .ok (.iaload, 1) := dk_o46 (by decide +kernel)
theorem dX11_no_7 : decode cX11_no 7 = .ok (.iconst 1, 1) := dk_o4 (by decide +kernel)
theorem dX11_no_8 : decode cX11_no 8 = .ok (.iadd, 1) := dk_o96 (by decide +kernel)
theorem dX11_no_9 : decode cX11_no 9 = .ok (.iastore, 1) := dk_o79 (by decide +kernel)
theorem dX11_no_10 : decode cX11_no 10 = .ok (.iconst 0, 1) := dk_o3 (by decide +kernel)
theorem dX11_no_11 : decode cX11_no 11 = .ok (.ireturn, 1) := dk_o172 (by decide +kernel)
theorem dX11_beginAct_0 : decode cX11_beginAct 0 = .ok (.aload_n 0, 1) := dk_o42 (by decide +kernel)
theorem dX11_beginAct_1 : decode cX11_beginAct 1 = .ok (.getfield 29, 3) := dk_o180 (by decide +kernel)
theorem dX11_beginAct_4 : decode cX11_beginAct 4 = .ok (.aload_n 0, 1) := dk_o42 (by decide +kernel)
theorem dX11_beginAct_5 : decode cX11_beginAct 5 = .ok (.getfield 19, 3) := dk_o180 (by decide +kernel)
theorem dX11_beginAct_8 : decode cX11_beginAct 8 = .ok (.invokevirtual 378, 3) := dk_o182 (by decide +kernel)
theorem dX11_beginAct_11 : decode cX11_beginAct 11 = .ok (.aload_n 0, 1) := dk_o42 (by decide +kernel)
theorem dX11_beginAct_12 : decode cX11_beginAct 12 = .ok (.invokevirtual 122, 3) := dk_o182 (by decide +kernel)
theorem dX11_beginAct_15 : decode cX11_beginAct 15 = .ok (.return_, 1) := dk_o177 (by decide +kernel)
theorem dX11_forgetTrials_0 : decode cX11_forgetTrials 0 = .ok (.aload_n 0, 1) := dk_o42 (by decide +kernel)
theorem dX11_forgetTrials_1 : decode cX11_forgetTrials 1 = .ok (.getfield 79, 3) := dk_o180 (by decide +kernel)
theorem dX11_forgetTrials_4 : decode cX11_forgetTrials 4 = .ok (.invokevirtual 380, 3) := dk_o182 (by decide +kernel)
theorem dX11_forgetTrials_7 : decode cX11_forgetTrials 7 = .ok (.aload_n 0, 1) := dk_o42 (by decide +kernel)
theorem dX11_forgetTrials_8 : decode cX11_forgetTrials 8 = .ok (.getfield 86, 3) := dk_o180 (by decide +kernel)
theorem dX11_forgetTrials_11 : decode cX11_forgetTrials 11 = .ok (.invokevirtual 383, 3) := dk_o182 (by decide +kernel)
theorem dX11_forgetTrials_14 : decode cX11_forgetTrials 14 = .ok (.return_, 1) := dk_o177 (by decide +kernel)
theorem dX11_shiftsCome_0 : decode cX11_shiftsCome 0 = .ok (.aload_n 0, 1) := dk_o42 (by decide +kernel)
theorem dX11_shiftsCome_1 : decode cX11_shiftsCome 1 = .ok (.getfield 49, 3) := dk_o180 (by decide +kernel)
theorem dX11_shiftsCome_4 : decode cX11_shiftsCome 4 = .ok (.invokevirtual 315, 3) := dk_o182 (by decide +kernel)
theorem dX11_shiftsCome_7 : decode cX11_shiftsCome 7 = .ok (.ifCond .eq 32, 3) := dk_o153 (by decide +kernel)
theorem dX11_shiftsCome_10 : decode cX11_shiftsCome 10 = .ok (.iload_n 2, 1) := dk_o28 (by decide +kernel)
theorem dX11_shiftsCome_11 : decode cX11_shiftsCome 11 = .ok (.iload_n 1, 1) := dk_o27 (by decide +kernel)
theorem dX11_shiftsCome_12 : decode cX11_shiftsCome 12 = .ok (.if_icmp .lt 27, 3) := dk_o161 (by decide +kernel)
theorem dX11_shiftsCome_15 : decode cX11_shiftsCome 15 = .ok (.iload_n 2, 1) := dk_o28 (by decide +kernel)
theorem dX11_shiftsCome_16 : decode cX11_shiftsCome 16 = .ok (.iload_n 3, 1) := dk_o29 (by decide +kernel)
theorem dX11_shiftsCome_17 : decode cX11_shiftsCome 17 = .ok (.if_icmp .gt 22, 3) := dk_o163 (by decide +kernel)
theorem dX11_shiftsCome_20 : decode cX11_shiftsCome 20 = .ok (.aload_n 0, 1) := dk_o42 (by decide +kernel)
theorem dX11_shiftsCome_21 : decode cX11_shiftsCome 21 = .ok (.getfield 19, 3) := dk_o180 (by decide +kernel)
theorem dX11_shiftsCome_24 : decode cX11_shiftsCome 24 = .ok (.getfield 146, 3) := dk_o180 (by decide +kernel)
theorem dX11_shiftsCome_27 : decode cX11_shiftsCome 27 = .ok (.iload_n 2, 1) := dk_o28 (by decide +kernel)
theorem dX11_shiftsCome_28 : decode cX11_shiftsCome 28 = .ok (.iadd, 1) := dk_o96 (by decide +kernel)
theorem dX11_shiftsCome_29 : decode cX11_shiftsCome 29 = .ok (.sipush 999, 3) := dk_o17 (by decide +kernel)
theorem dX11_shiftsCome_32 : decode cX11_shiftsCome 32 = .ok (.if_icmp .gt 7, 3) := dk_o163 (by decide +kernel)
theorem dX11_shiftsCome_35 : decode cX11_shiftsCome 35 = .ok (.iconst 1, 1) := dk_o4 (by decide +kernel)
theorem dX11_shiftsCome_36 : decode cX11_shiftsCome 36 = .ok (.goto 4, 3) := dk_o167 (by decide +kernel)
theorem dX11_shiftsCome_39 : decode cX11_shiftsCome 39 = .ok (.iconst 0, 1) := dk_o3 (by decide +kernel)
theorem dX11_shiftsCome_40 : decode cX11_shiftsCome 40 = .ok (.ireturn, 1) := dk_o172 (by decide +kernel)
theorem dX11_lookAhead_0 : decode cX11_lookAhead 0 = .ok (.aload_n 0, 1) := dk_o42 (by decide +kernel)
theorem dX11_lookAhead_1 : decode cX11_lookAhead 1 = .ok (.getfield 23, 3) := dk_o180 (by decide +kernel)
theorem dX11_lookAhead_4 : decode cX11_lookAhead 4 = .ok (.aload_n 0, 1) := dk_o42 (by decide +kernel)
theorem dX11_lookAhead_5 : decode cX11_lookAhead 5 = .ok (.getfield 19, 3) := dk_o180 (by decide +kernel)
theorem dX11_lookAhead_8 : decode cX11_lookAhead 8 = .ok (.invokevirtual 374, 3) := dk_o182 (by decide +kernel)
theorem dX11_lookAhead_11 : decode cX11_lookAhead 11 = .ok (.aload_n 0, 1) := dk_o42 (by decide +kernel)
theorem dX11_lookAhead_12 : decode cX11_lookAhead 12 = .ok (.getfield 70, 3) := dk_o180 (by decide +kernel)
theorem dX11_lookAhead_15 : decode cX11_lookAhead 15 = .ok (.aload_n 0, 1) := dk_o42 (by decide +kernel)
theorem dX11_lookAhead_16 : decode cX11_lookAhead 16 = .ok (.getfield 49, 3) := dk_o180 (by decide +kernel)
theorem dX11_lookAhead_19 : decode cX11_lookAhead 19 = .ok (.aload_n 0, 1) := dk_o42 (by decide +kernel)
theorem dX11_lookAhead_20 : decode cX11_lookAhead 20 = .ok (.getfield 23, 3) := dk_o180 (by decide +kernel)
theorem dX11_lookAhead_23 : decode cX11_lookAhead 23 = .ok (.aload_n 0, 1) := dk_o42 (by decide +kernel)
theorem dX11_lookAhead_24 : decode cX11_lookAhead 24 = .ok (.getfield 49, 3) := dk_o180 (by decide +kernel)
theorem dX11_lookAhead_27 : decode cX11_lookAhead 27 = .ok (.getfield 190, 3) := dk_o180 (by decide +kernel)
theorem dX11_lookAhead_30 : decode cX11_lookAhead 30 = .ok (.invokevirtual 193, 3) := dk_o182 (by decide +kernel)
theorem dX11_lookAhead_33 : decode cX11_lookAhead 33 = .ok (.aload_n 0, 1) := dk_o42 (by decide +kernel)
theorem dX11_lookAhead_34 : decode cX11_lookAhead 34 = .ok (.getfield 70, 3) := dk_o180 (by decide +kernel)
theorem dX11_lookAhead_37 : decode cX11_lookAhead 37 = .ok (.iload_n 1, 1) := dk_o27 (by decide +kernel)
theorem dX11_lookAhead_38 : decode cX11_lookAhead 38 = .ok (.invokevirtual 273, 3) := dk_o182 (by decide +kernel)
theorem dX11_lookAhead_41 : decode cX11_lookAhead 41 = .ok (.return_, 1) := dk_o177 (by decide +kernel)
theorem dX11_passAndKeep_0 : decode cX11_passAndKeep 0 = .ok (.aload_n 0, 1) := dk_o42 (by decide +kernel)
theorem dX11_passAndKeep_1 : decode cX11_passAndKeep 1 = .ok (.getfield 19, 3) := dk_o180 (by decide +kernel)
theorem dX11_passAndKeep_4 : decode cX11_passAndKeep 4 = .ok (.getfield 146, 3) := dk_o180 (by decide +kernel)
theorem dX11_passAndKeep_7 : decode cX11_passAndKeep 7 = .ok (.istore_n 1, 1) := dk_o60 (by decide +kernel)
theorem dX11_passAndKeep_8 : decode cX11_passAndKeep 8 = .ok (.aload_n 0, 1) := dk_o42 (by decide +kernel)
theorem dX11_passAndKeep_9 : decode cX11_passAndKeep 9 = .ok (.getfield 70, 3) := dk_o180 (by decide +kernel)
theorem dX11_passAndKeep_12 : decode cX11_passAndKeep 12 = .ok (.iconst 1, 1) := dk_o4 (by decide +kernel)
theorem dX11_passAndKeep_13 : decode cX11_passAndKeep 13 = .ok (.invokevirtual 273, 3) := dk_o182 (by decide +kernel)
theorem dX11_passAndKeep_16 : decode cX11_passAndKeep 16 = .ok (.aload_n 0, 1) := dk_o42 (by decide +kernel)
theorem dX11_passAndKeep_17 : decode cX11_passAndKeep 17 = .ok (.getfield 70, 3) := dk_o180 (by decide +kernel)
theorem dX11_passAndKeep_20 : decode cX11_passAndKeep 20 = .ok (.getfield 384, 3) := dk_o180 (by decide +kernel)
theorem dX11_passAndKeep_23 : decode cX11_passAndKeep 23 = .ok (.iconst (-1), 1) := dk_o2 (by decide +kernel)
theorem dX11_passAndKeep_24 : decode cX11_passAndKeep 24 = .ok (.if_icmp .ne 5, 3) := dk_o160 (by decide +kernel)
theorem dX11_passAndKeep_27 : decode cX11_passAndKeep 27 = .ok (.iconst 0, 1) := dk_o3 (by decide +kernel)
theorem dX11_passAndKeep_28 : decode cX11_passAndKeep 28 = .ok (.ireturn, 1) := dk_o172 (by decide +kernel)
theorem dX11_passAndKeep_29 : decode cX11_passAndKeep 29 = .ok (.aload_n 0, 1) := dk_o42 (by decide +kernel)
theorem dX11_passAndKeep_30 : decode cX11_passAndKeep 30 = .ok (.getfield 29, 3) := dk_o180 (by decide +kernel)
theorem dX11_passAndKeep_33 : decode cX11_passAndKeep 33 = .ok (.iload_n 1, 1) := dk_o27 (by decide +kernel)
theorem dX11_passAndKeep_34 : decode cX11_passAndKeep 34 = .ok (.aload_n 0, 1) := dk_o42 (by decide +kernel)
theorem dX11_passAndKeep_35 : decode cX11_passAndKeep 35 = .ok (.getfield 70, 3) := dk_o180 (by decide +kernel)
theorem dX11_passAndKeep_38 : decode cX11_passAndKeep 38 = .ok (.getfield 384, 3) := dk_o180 (by decide +kernel)
theorem dX11_passAndKeep_41 : decode cX11_passAndKeep 41 = .ok (.aload_n 0, 1) := dk_o42 (by decide +kernel)
theorem dX11_passAndKeep_42 : decode cX11_passAndKeep 42 = .ok (.getfield 70, 3) := dk_o180 (by decide +kernel)
theorem dX11_passAndKeep_45 : decode cX11_passAndKeep 45 = .ok (.getfield 387, 3) := dk_o180 (by decide +kernel)
theorem dX11_passAndKeep_48 : decode cX11_passAndKeep 48 = .ok (.bipush 8, 2) := dk_o16 (by decide +kernel)
theorem dX11_passAndKeep_50 : decode cX11_passAndKeep 50 = .ok (.isub, 1) := dk_o100 (by decide +kernel)
theorem dX11_passAndKeep_51 : decode cX11_passAndKeep 51 = .ok (.aload_n 0, 1) := dk_o42 (by decide +kernel)
theorem dX11_passAndKeep_52 : decode cX11_passAndKeep 52 = .ok (.getfield 70, 3) := dk_o180 (by decide +kernel)
theorem dX11_passAndKeep_55 : decode cX11_passAndKeep 55 = .ok (.getfield 390, 3) := dk_o180 (by decide +kernel)
theorem dX11_passAndKeep_58 : decode cX11_passAndKeep 58 = .ok (.invokevirtual 393, 3) := dk_o182 (by decide +kernel)
theorem dX11_passAndKeep_61 : decode cX11_passAndKeep 61 = .ok (.aload_n 0, 1) := dk_o42 (by decide +kernel)
theorem dX11_passAndKeep_62 : decode cX11_passAndKeep 62 = .ok (.getfield 70, 3) := dk_o180 (by decide +kernel)
theorem dX11_passAndKeep_65 : decode cX11_passAndKeep 65 = .ok (.getfield 390, 3) := dk_o180 (by decide +kernel)
theorem dX11_passAndKeep_68 : decode cX11_passAndKeep 68 = .ok (.iconst (-1), 1) := dk_o2 (by decide +kernel)
theorem dX11_passAndKeep_69 : decode cX11_passAndKeep 69 = .ok (.if_icmp .ne 7, 3) := dk_o160 (by decide +kernel)
theorem dX11_passAndKeep_72 : decode cX11_passAndKeep 72 = .ok (.iconst 0, 1) := dk_o3 (by decide +kernel)
theorem dX11_passAndKeep_73 : decode cX11_passAndKeep 73 = .ok (.goto 4, 3) := dk_o167 (by decide +kernel)
theorem dX11_passAndKeep_76 : decode cX11_passAndKeep 76 = .ok (.iconst 1, 1) := dk_o4 (by decide +kernel)
theorem dX11_passAndKeep_77 : decode cX11_passAndKeep 77 = .ok (.ireturn, 1) := dk_o172 (by decide +kernel)
theorem dX11_quakeCloses_0 : decode cX11_quakeCloses 0 = .ok (.aload_n 0, 1) := dk_o42 (by decide +kernel)
theorem dX11_quakeCloses_1 : decode cX11_quakeCloses 1 = .ok (.bipush 100, 2) := dk_o16 (by decide +kernel)
theorem dX11_quakeCloses_3 : decode cX11_quakeCloses 3 = .ok (.invokevirtual 397, 3) := dk_o182 (by decide +kernel)
theorem dX11_quakeCloses_6 : decode cX11_quakeCloses 6 = .ok (.aload_n 0, 1) := dk_o42 (by decide +kernel)
theorem dX11_quakeCloses_7 : decode cX11_quakeCloses 7 = .ok (.getfield 49, 3) := dk_o180 (by decide +kernel)
theorem dX11_quakeCloses_10 : decode cX11_quakeCloses 10 = .ok (.getfield 400, 3) := dk_o180 (by decide +kernel)
theorem dX11_quakeCloses_13 : decode cX11_quakeCloses 13 = .ok (.if_icmp .lt 5, 3) := dk_o161 (by decide +kernel)
theorem dX11_quakeCloses_16 : decode cX11_quakeCloses 16 = .ok (.iconst 0, 1) := dk_o3 (by decide +kernel)
theorem dX11_quakeCloses_17 : decode cX11_quakeCloses 17 = .ok (.ireturn, 1) := dk_o172 (by decide +kernel)
theorem dX11_quakeCloses_18 : decode cX11_quakeCloses 18 = .ok (.aload_n 0, 1) := dk_o42 (by decide +kernel)
theorem dX11_quakeCloses_19 : decode cX11_quakeCloses 19 = .ok (.aload_n 0, 1) := dk_o42 (by decide +kernel)
theorem dX11_quakeCloses_20 : decode cX11_quakeCloses 20 = .ok (.getfield 49, 3) := dk_o180 (by decide +kernel)
theorem dX11_quakeCloses_23 : decode cX11_quakeCloses 23 = .ok (.getfield 131, 3) := dk_o180 (by decide +kernel)
theorem dX11_quakeCloses_26 : decode cX11_quakeCloses 26 = .ok (.invokevirtual 397, 3) := dk_o182 (by decide +kernel)
theorem dX11_quakeCloses_29 : decode cX11_quakeCloses 29 = .ok (.istore_n 1, 1) := dk_o60 (by decide +kernel)
theorem dX11_quakeCloses_30 : decode cX11_quakeCloses 30 = .ok (.aload_n 0, 1) := dk_o42 (by decide +kernel)
theorem dX11_quakeCloses_31 : decode cX11_quakeCloses 31 = .ok (.aload_n 0, 1) := dk_o42 (by decide +kernel)
theorem dX11_quakeCloses_32 : decode cX11_quakeCloses 32 = .ok (.getfield 49, 3) := dk_o180 (by decide +kernel)
theorem dX11_quakeCloses_35 : decode cX11_quakeCloses 35 = .ok (.getfield 134, 3) := dk_o180 (by decide +kernel)
theorem dX11_quakeCloses_38 : decode cX11_quakeCloses 38 = .ok (.invokevirtual 397, 3) := dk_o182 (by decide +kernel)
theorem dX11_quakeCloses_41 : decode cX11_quakeCloses 41 = .ok (.istore_n 2, 1) := dk_o61 (by decide +kernel)
theorem dX11_quakeCloses_42 : decode cX11_quakeCloses 42 = .ok (.aload_n 0, 1) := dk_o42 (by decide +kernel)
theorem dX11_quakeCloses_43 : decode cX11_quakeCloses 43 = .ok (.getfield 70, 3) := dk_o180 (by decide +kernel)
theorem dX11_quakeCloses_46 : decode cX11_quakeCloses 46 = .ok (.aload_n 0, 1) := dk_o42 (by decide +kernel)
theorem dX11_quakeCloses_47 : decode cX11_quakeCloses 47 = .ok (.getfield 49, 3) := dk_o180 (by decide +kernel)
theorem dX11_quakeCloses_50 : decode cX11_quakeCloses 50 = .ok (.iload_n 1, 1) := dk_o27 (by decide +kernel)
theorem dX11_quakeCloses_51 : decode cX11_quakeCloses 51 = .ok (.iload_n 2, 1) := dk_o28 (by decide +kernel)
theorem dX11_quakeCloses_52 : decode cX11_quakeCloses 52 = .ok (.invokevirtual 187, 3) := dk_o182 (by decide +kernel)
theorem dX11_quakeCloses_55 : decode cX11_quakeCloses 55 = .ok (.invokevirtual 403, 3) := dk_o182 (by decide +kernel)
theorem dX11_quakeCloses_58 : decode cX11_quakeCloses 58 = .ok (.ireturn, 1) := dk_o172 (by decide +kernel)
theorem dX11_draw_0 : decode cX11_draw 0 = .ok (.aload_n 0, 1) := dk_o42 (by decide +kernel)
theorem dX11_draw_1 : decode cX11_draw 1 = .ok (.ldc2_w 406, 3) := dk_o20 (by decide +kernel)
theorem dX11_draw_4 : decode cX11_draw 4 = .ok (.aload_n 0, 1) := dk_o42 (by decide +kernel)
theorem dX11_draw_5 : decode cX11_draw 5 = .ok (.getfield 90, 3) := dk_o180 (by decide +kernel)
theorem dX11_draw_8 : decode cX11_draw 8 = .ok (.i2l, 1) := dk_o133 (by decide +kernel)
theorem dX11_draw_9 : decode cX11_draw 9 = .ok (.lmul, 1) := dk_o105 (by decide +kernel)
theorem dX11_draw_10 : decode cX11_draw 10 = .ok (.ldc2_w 408, 3) := dk_o20 (by decide +kernel)
theorem dX11_draw_13 : decode cX11_draw 13 = .ok (.ladd, 1) := dk_o97 (by decide +kernel)
theorem dX11_draw_14 : decode cX11_draw 14 = .ok (.ldc2_w 410, 3) := dk_o20 (by decide +kernel)
theorem dX11_draw_17 : decode cX11_draw 17 = .ok (.land, 1) := dk_o127 (by decide +kernel)
theorem dX11_draw_18 : decode cX11_draw 18 = .ok (.l2i, 1) := dk_o136 (by decide +kernel)
theorem dX11_draw_19 : decode cX11_draw 19 = .ok (.putfield 90, 3) := dk_o181 (by decide +kernel)
theorem dX11_draw_22 : decode cX11_draw 22 = .ok (.iload_n 1, 1) := dk_o27 (by decide +kernel)
theorem dX11_draw_23 : decode cX11_draw 23 = .ok (.ifCond .le 15, 3) := dk_o158 (by decide +kernel)
theorem dX11_draw_26 : decode cX11_draw 26 = .ok (.aload_n 0, 1) := dk_o42 (by decide +kernel)
theorem dX11_draw_27 : decode cX11_draw 27 = .ok (.getfield 90, 3) := dk_o180 (by decide +kernel)
theorem dX11_draw_30 : decode cX11_draw 30 = .ok (.bipush 64, 2) := dk_o16 (by decide +kernel)
theorem dX11_draw_32 : decode cX11_draw 32 = .ok (.idiv, 1) := dk_o108 (by decide +kernel)
theorem dX11_draw_33 : decode cX11_draw 33 = .ok (.iload_n 1, 1) := dk_o27 (by decide +kernel)
theorem dX11_draw_34 : decode cX11_draw 34 = .ok (.irem, 1) := dk_o112 (by decide +kernel)
theorem dX11_draw_35 : decode cX11_draw 35 = .ok (.goto 4, 3) := dk_o167 (by decide +kernel)
theorem dX11_draw_38 : decode cX11_draw 38 = .ok (.iconst 0, 1) := dk_o3 (by decide +kernel)
theorem dX11_draw_39 : decode cX11_draw 39 = .ok (.ireturn, 1) := dk_o172 (by decide +kernel)
theorem dX11_countOpen_0 : decode cX11_countOpen 0 = .ok (.iconst 0, 1) := dk_o3 (by decide +kernel)
theorem dX11_countOpen_1 : decode cX11_countOpen 1 = .ok (.istore_n 1, 1) := dk_o60 (by decide +kernel)
theorem dX11_countOpen_2 : decode cX11_countOpen 2 = .ok (.iconst 0, 1) := dk_o3 (by decide +kernel)
theorem dX11_countOpen_3 : decode cX11_countOpen 3 = .ok (.istore_n 2, 1) := dk_o61 (by decide +kernel)
theorem dX11_countOpen_4 : decode cX11_countOpen 4 = .ok (.iload_n 2, 1) := dk_o28 (by decide +kernel)
theorem dX11_countOpen_5 : decode cX11_countOpen 5 = .ok (.bipush 72, 2) := dk_o16 (by decide +kernel)
theorem dX11_countOpen_7 : decode cX11_countOpen 7 = .ok (.if_icmp .ge 23, 3) := dk_o162 (by decide +kernel)
theorem dX11_countOpen_10 : decode cX11_countOpen 10 = .ok (.iload_n 1, 1) := dk_o27 (by decide +kernel)
theorem dX11_countOpen_11 : decode cX11_countOpen 11 = .ok (.aload_n 0, 1) := dk_o42 (by decide +kernel)
theorem dX11_countOpen_12 : decode cX11_countOpen 12 = .ok (.getfield 19, 3) := dk_o180 (by decide +kernel)
theorem dX11_countOpen_15 : decode cX11_countOpen 15 = .ok (.iload_n 2, 1) := dk_o28 (by decide +kernel)
theorem dX11_countOpen_16 : decode cX11_countOpen 16 = .ok (.invokevirtual 200, 3) := dk_o182 (by decide +kernel)
theorem dX11_countOpen_19 : decode cX11_countOpen 19 = .ok (.invokestatic 203, 3) := dk_o184 (by decide +kernel)
theorem dX11_countOpen_22 : decode cX11_countOpen 22 = .ok (.iadd, 1) := dk_o96 (by decide +kernel)
theorem dX11_countOpen_23 : decode cX11_countOpen 23 = .ok (.istore_n 1, 1) := dk_o60 (by decide +kernel)
theorem dX11_countOpen_24 : decode cX11_countOpen 24 = .ok (.iinc 2 1, 3) := dk_o132 (by decide +kernel)
theorem dX11_countOpen_27 : decode cX11_countOpen 27 = .ok (.goto (-23), 3) := dk_o167 (by decide +kernel)
theorem dX11_countOpen_30 : decode cX11_countOpen 30 = .ok (.iload_n 1, 1) := dk_o27 (by decide +kernel)
theorem dX11_countOpen_31 : decode cX11_countOpen 31 = .ok (.ireturn, 1) := dk_o172 (by decide +kernel)
theorem dX11_countLit_0 : decode cX11_countLit 0 = .ok (.aload_n 0, 1) := dk_o42 (by decide +kernel)
theorem dX11_countLit_1 : decode cX11_countLit 1 = .ok (.getfield 49, 3) := dk_o180 (by decide +kernel)
theorem dX11_countLit_4 : decode cX11_countLit 4 = .ok (.invokevirtual 315, 3) := dk_o182 (by decide +kernel)
theorem dX11_countLit_7 : decode cX11_countLit 7 = .ok (.ifCond .ne 5, 3) := dk_o154 (by decide +kernel)
theorem dX11_countLit_10 : decode cX11_countLit 10 = .ok (.iconst 0, 1) := dk_o3 (by decide +kernel)
theorem dX11_countLit_11 : decode cX11_countLit 11 = .ok (.ireturn, 1) := dk_o172 (by decide +kernel)
theorem dX11_countLit_12 : decode cX11_countLit 12 = .ok (.aload_n 0, 1) := dk_o42 (by decide +kernel)
theorem dX11_countLit_13 : decode cX11_countLit 13 = .ok (.getfield 70, 3) := dk_o180 (by decide +kernel)
theorem dX11_countLit_16 : decode cX11_countLit 16 = .ok (.aload_n 0, 1) := dk_o42 (by decide +kernel)
theorem dX11_countLit_17 : decode cX11_countLit 17 = .ok (.getfield 49, 3) := dk_o180 (by decide +kernel)
theorem dX11_countLit_20 : decode cX11_countLit 20 = .ok (.aload_n 0, 1) := dk_o42 (by decide +kernel)
theorem dX11_countLit_21 : decode cX11_countLit 21 = .ok (.getfield 19, 3) := dk_o180 (by decide +kernel)
theorem dX11_countLit_24 : decode cX11_countLit 24 = .ok (.aload_n 0, 1) := dk_o42 (by decide +kernel)
theorem dX11_countLit_25 : decode cX11_countLit 25 = .ok (.getfield 49, 3) := dk_o180 (by decide +kernel)
theorem dX11_countLit_28 : decode cX11_countLit 28 = .ok (.getfield 190, 3) := dk_o180 (by decide +kernel)
theorem dX11_countLit_31 : decode cX11_countLit 31 = .ok (.invokevirtual 193, 3) := dk_o182 (by decide +kernel)
theorem dX11_countLit_34 : decode cX11_countLit 34 = .ok (.iconst 0, 1) := dk_o3 (by decide +kernel)
theorem dX11_countLit_35 : decode cX11_countLit 35 = .ok (.istore_n 1, 1) := dk_o60 (by decide +kernel)
theorem dX11_countLit_36 : decode cX11_countLit 36 = .ok (.iconst 0, 1) := dk_o3 (by decide +kernel)
theorem dX11_countLit_37 : decode cX11_countLit 37 = .ok (.istore_n 2, 1) := dk_o61 (by decide +kernel)
theorem dX11_countLit_38 : decode cX11_countLit 38 = .ok (.iload_n 2, 1) := dk_o28 (by decide +kernel)
theorem dX11_countLit_39 : decode cX11_countLit 39 = .ok (.bipush 72, 2) := dk_o16 (by decide +kernel)
theorem dX11_countLit_41 : decode cX11_countLit 41 = .ok (.if_icmp .ge 23, 3) := dk_o162 (by decide +kernel)
theorem dX11_countLit_44 : decode cX11_countLit 44 = .ok (.iload_n 1, 1) := dk_o27 (by decide +kernel)
theorem dX11_countLit_45 : decode cX11_countLit 45 = .ok (.aload_n 0, 1) := dk_o42 (by decide +kernel)
theorem dX11_countLit_46 : decode cX11_countLit 46 = .ok (.getfield 70, 3) := dk_o180 (by decide +kernel)
theorem dX11_countLit_49 : decode cX11_countLit 49 = .ok (.iload_n 2, 1) := dk_o28 (by decide +kernel)
theorem dX11_countLit_50 : decode cX11_countLit 50 = .ok (.invokevirtual 207, 3) := dk_o182 (by decide +kernel)
theorem dX11_countLit_53 : decode cX11_countLit 53 = .ok (.invokestatic 203, 3) := dk_o184 (by decide +kernel)
theorem dX11_countLit_56 : decode cX11_countLit 56 = .ok (.iadd, 1) := dk_o96 (by decide +kernel)
theorem dX11_countLit_57 : decode cX11_countLit 57 = .ok (.istore_n 1, 1) := dk_o60 (by decide +kernel)
theorem dX11_countLit_58 : decode cX11_countLit 58 = .ok (.iinc 2 1, 3) := dk_o132 (by decide +kernel)
theorem dX11_countLit_61 : decode cX11_countLit 61 = .ok (.goto (-23), 3) := dk_o167 (by decide +kernel)
theorem dX11_countLit_64 : decode cX11_countLit 64 = .ok (.iload_n 1, 1) := dk_o27 (by decide +kernel)
theorem dX11_countLit_65 : decode cX11_countLit 65 = .ok (.ireturn, 1) := dk_o172 (by decide +kernel)
theorem dX11_countCurtains_0 : decode cX11_countCurtains 0 = .ok (.iconst 0, 1) := dk_o3 (by decide +kernel)
theorem dX11_countCurtains_1 : decode cX11_countCurtains 1 = .ok (.istore_n 1, 1) := dk_o60 (by decide +kernel)
theorem dX11_countCurtains_2 : decode cX11_countCurtains 2 = .ok (.iconst 0, 1) := dk_o3 (by decide +kernel)
theorem dX11_countCurtains_3 : decode cX11_countCurtains 3 = .ok (.istore_n 2, 1) := dk_o61 (by decide +kernel)
theorem dX11_countCurtains_4 : decode cX11_countCurtains 4 = .ok (.iload_n 2, 1) := dk_o28 (by decide +kernel)
theorem dX11_countCurtains_5 : decode cX11_countCurtains 5 = .ok (.bipush 72, 2) := dk_o16 (by decide +kernel)
theorem dX11_countCurtains_7 : decode cX11_countCurtains 7 = .ok (.if_icmp .ge 35, 3) := dk_o162 (by decide +kernel)
theorem dX11_countCurtains_10 : decode cX11_countCurtains 10 = .ok (.iload_n 1, 1) := dk_o27 (by decide +kernel)
theorem dX11_countCurtains_11 : decode cX11_countCurtains 11 = .ok (.aload_n 0, 1) := dk_o42 (by decide +kernel)
theorem dX11_countCurtains_12 : decode cX11_countCurtains 12 = .ok (.getfield 19, 3) := dk_o180 (by decide +kernel)
theorem dX11_countCurtains_15 : decode cX11_countCurtains 15 = .ok (.getfield 210, 3) := dk_o180 (by decide +kernel)
theorem dX11_countCurtains_18 : decode cX11_countCurtains 18 = .ok (.iload_n 2, 1) := dk_o28 (by decide +kernel)
theorem dX11_countCurtains_19 : decode cX11_countCurtains 19 = .ok (.iaload, 1) := dk_o46 (by decide +kernel)
theorem dX11_countCurtains_20 : decode cX11_countCurtains 20 = .ok (.sipush 254, 3) := dk_o17 (by decide +kernel)
theorem dX11_countCurtains_23 : decode cX11_countCurtains 23 = .ok (.if_icmp .ne 7, 3) := dk_o160 (by decide +kernel)
theorem dX11_countCurtains_26 : decode cX11_countCurtains 26 = .ok (.iconst 1, 1) := dk_o4 (by decide +kernel)
theorem dX11_countCurtains_27 : decode cX11_countCurtains 27 = .ok (.goto 4, 3) := dk_o167 (by decide +kernel)
theorem dX11_countCurtains_30 : decode cX11_countCurtains 30 = .ok (.iconst 0, 1) := dk_o3 (by decide +kernel)
theorem dX11_countCurtains_31 : decode cX11_countCurtains 31 = .ok (.invokestatic 203, 3) := dk_o184 (by decide +kernel)
theorem dX11_countCurtains_34 : decode cX11_countCurtains 34 = .ok (.iadd, 1) := dk_o96 (by decide +kernel)
theorem dX11_countCurtains_35 : decode cX11_countCurtains 35 = .ok (.istore_n 1, 1) := dk_o60 (by decide +kernel)
theorem dX11_countCurtains_36 : decode cX11_countCurtains 36 = .ok (.iinc 2 1, 3) := dk_o132 (by decide +kernel)
theorem dX11_countCurtains_39 : decode cX11_countCurtains 39 = .ok (.goto (-35), 3) := dk_o167 (by decide +kernel)
theorem dX11_countCurtains_42 : decode cX11_countCurtains 42 = .ok (.iload_n 1, 1) := dk_o27 (by decide +kernel)
theorem dX11_countCurtains_43 : decode cX11_countCurtains 43 = .ok (.ireturn, 1) := dk_o172 (by decide +kernel)
theorem dX11_countHurt_0 : decode cX11_countHurt 0 = .ok (.iconst 0, 1) := dk_o3 (by decide +kernel)
theorem dX11_countHurt_1 : decode cX11_countHurt 1 = .ok (.istore_n 1, 1) := dk_o60 (by decide +kernel)
theorem dX11_countHurt_2 : decode cX11_countHurt 2 = .ok (.iconst 0, 1) := dk_o3 (by decide +kernel)
theorem dX11_countHurt_3 : decode cX11_countHurt 3 = .ok (.istore_n 2, 1) := dk_o61 (by decide +kernel)
theorem dX11_countHurt_4 : decode cX11_countHurt 4 = .ok (.iload_n 2, 1) := dk_o28 (by decide +kernel)
theorem dX11_countHurt_5 : decode cX11_countHurt 5 = .ok (.aload_n 0, 1) := dk_o42 (by decide +kernel)
theorem dX11_countHurt_6 : decode cX11_countHurt 6 = .ok (.getfield 49, 3) := dk_o180 (by decide +kernel)
theorem dX11_countHurt_9 : decode cX11_countHurt 9 = .ok (.getfield 137, 3) := dk_o180 (by decide +kernel)
theorem dX11_countHurt_12 : decode cX11_countHurt 12 = .ok (.if_icmp .ge 21, 3) := dk_o162 (by decide +kernel)
theorem dX11_countHurt_15 : decode cX11_countHurt 15 = .ok (.iload_n 1, 1) := dk_o27 (by decide +kernel)
theorem dX11_countHurt_16 : decode cX11_countHurt 16 = .ok (.aload_n 0, 1) := dk_o42 (by decide +kernel)
theorem dX11_countHurt_17 : decode cX11_countHurt 17 = .ok (.getfield 19, 3) := dk_o180 (by decide +kernel)
theorem dX11_countHurt_20 : decode cX11_countHurt 20 = .ok (.getfield 222, 3) := dk_o180 (by decide +kernel)
theorem dX11_countHurt_23 : decode cX11_countHurt 23 = .ok (.iload_n 2, 1) := dk_o28 (by decide +kernel)
theorem dX11_countHurt_24 : decode cX11_countHurt 24 = .ok (.iaload, 1) := dk_o46 (by decide +kernel)
theorem dX11_countHurt_25 : decode cX11_countHurt 25 = .ok (.iadd, 1) := dk_o96 (by decide +kernel)
theorem dX11_countHurt_26 : decode cX11_countHurt 26 = .ok (.istore_n 1, 1) := dk_o60 (by decide +kernel)
theorem dX11_countHurt_27 : decode cX11_countHurt 27 = .ok (.iinc 2 1, 3) := dk_o132 (by decide +kernel)
theorem dX11_countHurt_30 : decode cX11_countHurt 30 = .ok (.goto (-26), 3) := dk_o167 (by decide +kernel)
theorem dX11_countHurt_33 : decode cX11_countHurt 33 = .ok (.iload_n 1, 1) := dk_o27 (by decide +kernel)
theorem dX11_countHurt_34 : decode cX11_countHurt 34 = .ok (.ireturn, 1) := dk_o172 (by decide +kernel)
theorem dX11_canBeSold_0 : decode cX11_canBeSold 0 = .ok (.aload_n 0, 1) := dk_o42 (by decide +kernel)
theorem dX11_canBeSold_1 : decode cX11_canBeSold 1 = .ok (.getfield 19, 3) := dk_o180 (by decide +kernel)
theorem dX11_canBeSold_4 : decode cX11_canBeSold 4 = .ok (.getfield 252, 3) := dk_o180 (by decide +kernel)
theorem dX11_canBeSold_7 : decode cX11_canBeSold 7 = .ok (.iload_n 1, 1) := dk_o27 (by decide +kernel)
theorem dX11_canBeSold_8 : decode cX11_canBeSold 8 = .ok (.iaload, 1) := dk_o46 (by decide +kernel)
theorem dX11_canBeSold_9 : decode cX11_canBeSold 9 = .ok (.ifCond .ne 35, 3) := dk_o154 (by decide +kernel)
theorem dX11_canBeSold_12 : decode cX11_canBeSold 12 = .ok (.aload_n 0, 1) := dk_o42 (by decide +kernel)
theorem dX11_canBeSold_13 : decode cX11_canBeSold 13 = .ok (.getfield 19, 3) := dk_o180 (by decide +kernel)
theorem dX11_canBeSold_16 : decode cX11_canBeSold 16 = .ok (.aload_n 0, 1) := dk_o42 (by decide +kernel)
theorem dX11_canBeSold_17 : decode cX11_canBeSold 17 = .ok (.getfield 49, 3) := dk_o180 (by decide +kernel)
theorem dX11_canBeSold_20 : decode cX11_canBeSold 20 = .ok (.getfield 243, 3) := dk_o180 (by decide +kernel)
theorem dX11_canBeSold_23 : decode cX11_canBeSold 23 = .ok (.iload_n 1, 1) := dk_o27 (by decide +kernel)
theorem dX11_canBeSold_24 : decode cX11_canBeSold 24 = .ok (.iaload, 1) := dk_o46 (by decide +kernel)
theorem dX11_canBeSold_25 : decode cX11_canBeSold 25 = .ok (.invokevirtual 162, 3) := dk_o182 (by decide +kernel)
theorem dX11_canBeSold_28 : decode cX11_canBeSold 28 = .ok (.aload_n 0, 1) := dk_o42 (by decide +kernel)
theorem dX11_canBeSold_29 : decode cX11_canBeSold 29 = .ok (.getfield 49, 3) := dk_o180 (by decide +kernel)
theorem dX11_canBeSold_32 : decode cX11_canBeSold 32 = .ok (.getfield 246, 3) := dk_o180 (by decide +kernel)
theorem dX11_canBeSold_35 : decode cX11_canBeSold 35 = .ok (.iload_n 1, 1) := dk_o27 (by decide +kernel)
theorem dX11_canBeSold_36 : decode cX11_canBeSold 36 = .ok (.iaload, 1) := dk_o46 (by decide +kernel)
theorem dX11_canBeSold_37 : decode cX11_canBeSold 37 = .ok (.if_icmp .lt 7, 3) := dk_o161 (by decide +kernel)
theorem dX11_canBeSold_40 : decode cX11_canBeSold 40 = .ok (.iconst 1, 1) := dk_o4 (by decide +kernel)
theorem dX11_canBeSold_41 : decode cX11_canBeSold 41 = .ok (.goto 4, 3) := dk_o167 (by decide +kernel)
theorem dX11_canBeSold_44 : decode cX11_canBeSold 44 = .ok (.iconst 0, 1) := dk_o3 (by decide +kernel)
theorem dX11_canBeSold_45 : decode cX11_canBeSold 45 = .ok (.ireturn, 1) := dk_o172 (by decide +kernel)
theorem dX11_canAllBeSold_0 : decode cX11_canAllBeSold 0 = .ok (.iconst 0, 1) := dk_o3 (by decide +kernel)
theorem dX11_canAllBeSold_1 : decode cX11_canAllBeSold 1 = .ok (.istore_n 2, 1) := dk_o61 (by decide +kernel)
theorem dX11_canAllBeSold_2 : decode cX11_canAllBeSold 2 = .ok (.iload_n 2, 1) := dk_o28 (by decide +kernel)
theorem dX11_canAllBeSold_3 : decode cX11_canAllBeSold 3 = .ok (.aload_n 0, 1) := dk_o42 (by decide +kernel)
theorem dX11_canAllBeSold_4 : decode cX11_canAllBeSold 4 = .ok (.getfield 49, 3) := dk_o180 (by decide +kernel)
theorem dX11_canAllBeSold_7 : decode cX11_canAllBeSold 7 = .ok (.getfield 143, 3) := dk_o180 (by decide +kernel)
theorem dX11_canAllBeSold_10 : decode cX11_canAllBeSold 10 = .ok (.if_icmp .ge 62, 3) := dk_o162 (by decide +kernel)
theorem dX11_canAllBeSold_13 : decode cX11_canAllBeSold 13 = .ok (.iload_n 1, 1) := dk_o27 (by decide +kernel)
theorem dX11_canAllBeSold_14 : decode cX11_canAllBeSold 14 = .ok (.iload_n 2, 1) := dk_o28 (by decide +kernel)
theorem dX11_canAllBeSold_15 : decode cX11_canAllBeSold 15 = .ok (.ishr, 1) := dk_o122 (by decide +kernel)
theorem dX11_canAllBeSold_16 : decode cX11_canAllBeSold 16 = .ok (.iconst 1, 1) := dk_o4 (by decide +kernel)
theorem dX11_canAllBeSold_17 : decode cX11_canAllBeSold 17 = .ok (.iand, 1) := dk_o126 (by decide +kernel)
theorem dX11_canAllBeSold_18 : decode cX11_canAllBeSold 18 = .ok (.ifCond .ne 6, 3) := dk_o154 (by decide +kernel)
theorem dX11_canAllBeSold_21 : decode cX11_canAllBeSold 21 = .ok (.goto 45, 3) := dk_o167 (by decide +kernel)
theorem dX11_canAllBeSold_24 : decode cX11_canAllBeSold 24 = .ok (.aload_n 0, 1) := dk_o42 (by decide +kernel)
theorem dX11_canAllBeSold_25 : decode cX11_canAllBeSold 25 = .ok (.getfield 49, 3) := dk_o180 (by decide +kernel)
theorem dX11_canAllBeSold_28 : decode cX11_canAllBeSold 28 = .ok (.getfield 243, 3) := dk_o180 (by decide +kernel)
theorem dX11_canAllBeSold_31 : decode cX11_canAllBeSold 31 = .ok (.iload_n 2, 1) := dk_o28 (by decide +kernel)
theorem dX11_canAllBeSold_32 : decode cX11_canAllBeSold 32 = .ok (.iaload, 1) := dk_o46 (by decide +kernel)
theorem dX11_canAllBeSold_33 : decode cX11_canAllBeSold 33 = .ok (.istore_n 3, 1) := dk_o62 (by decide +kernel)
theorem dX11_canAllBeSold_34 : decode cX11_canAllBeSold 34 = .ok (.aload_n 0, 1) := dk_o42 (by decide +kernel)
theorem dX11_canAllBeSold_35 : decode cX11_canAllBeSold 35 = .ok (.getfield 19, 3) := dk_o180 (by decide +kernel)
theorem dX11_canAllBeSold_38 : decode cX11_canAllBeSold 38 = .ok (.getfield 252, 3) := dk_o180 (by decide +kernel)
theorem dX11_canAllBeSold_41 : decode cX11_canAllBeSold 41 = .ok (.iload_n 2, 1) := dk_o28 (by decide +kernel)
theorem dX11_canAllBeSold_42 : decode cX11_canAllBeSold 42 = .ok (.iaload, 1) := dk_o46 (by decide +kernel)
theorem dX11_canAllBeSold_43 : decode cX11_canAllBeSold 43 = .ok (.iconst 1, 1) := dk_o4 (by decide +kernel)
theorem dX11_canAllBeSold_44 : decode cX11_canAllBeSold 44 = .ok (.if_icmp .eq 20, 3) := dk_o159 (by decide +kernel)
theorem dX11_canAllBeSold_47 : decode cX11_canAllBeSold 47 = .ok (.aload_n 0, 1) := dk_o42 (by decide +kernel)
theorem dX11_canAllBeSold_48 : decode cX11_canAllBeSold 48 = .ok (.iload_n 1, 1) := dk_o27 (by decide +kernel)
theorem dX11_canAllBeSold_49 : decode cX11_canAllBeSold 49 = .ok (.iload_n 3, 1) := dk_o29 (by decide +kernel)
theorem dX11_canAllBeSold_50 : decode cX11_canAllBeSold 50 = .ok (.invokevirtual 412, 3) := dk_o182 (by decide +kernel)
theorem dX11_canAllBeSold_53 : decode cX11_canAllBeSold 53 = .ok (.aload_n 0, 1) := dk_o42 (by decide +kernel)
theorem dX11_canAllBeSold_54 : decode cX11_canAllBeSold 54 = .ok (.getfield 19, 3) := dk_o180 (by decide +kernel)
theorem dX11_canAllBeSold_57 : decode cX11_canAllBeSold 57 = .ok (.iload_n 3, 1) := dk_o29 (by decide +kernel)
theorem dX11_canAllBeSold_58 : decode cX11_canAllBeSold 58 = .ok (.invokevirtual 162, 3) := dk_o182 (by decide +kernel)
theorem dX11_canAllBeSold_61 : decode cX11_canAllBeSold 61 = .ok (.if_icmp .le 5, 3) := dk_o164 (by decide +kernel)
theorem dX11_canAllBeSold_64 : decode cX11_canAllBeSold 64 = .ok (.iconst 0, 1) := dk_o3 (by decide +kernel)
theorem dX11_canAllBeSold_65 : decode cX11_canAllBeSold 65 = .ok (.ireturn, 1) := dk_o172 (by decide +kernel)
theorem dX11_canAllBeSold_66 : decode cX11_canAllBeSold 66 = .ok (.iinc 2 1, 3) := dk_o132 (by decide +kernel)
theorem dX11_canAllBeSold_69 : decode cX11_canAllBeSold 69 = .ok (.goto (-67), 3) := dk_o167 (by decide +kernel)
theorem dX11_canAllBeSold_72 : decode cX11_canAllBeSold 72 = .ok (.iconst 1, 1) := dk_o4 (by decide +kernel)
theorem dX11_canAllBeSold_73 : decode cX11_canAllBeSold 73 = .ok (.ireturn, 1) := dk_o172 (by decide +kernel)
theorem dX11_wantedFrom_0 : decode cX11_wantedFrom 0 = .ok (.iconst 0, 1) := dk_o3 (by decide +kernel)
theorem dX11_wantedFrom_1 : decode cX11_wantedFrom 1 = .ok (.istore_n 3, 1) := dk_o62 (by decide +kernel)
theorem dX11_wantedFrom_2 : decode cX11_wantedFrom 2 = .ok (.iconst 0, 1) := dk_o3 (by decide +kernel)
theorem dX11_wantedFrom_3 : decode cX11_wantedFrom 3 = .ok (.istore 4, 2) := dk_o54 (by decide +kernel)
theorem dX11_wantedFrom_5 : decode cX11_wantedFrom 5 = .ok (.iload 4, 2) := dk_o21 (by decide +kernel)
theorem dX11_wantedFrom_7 : decode cX11_wantedFrom 7 = .ok (.aload_n 0, 1) := dk_o42 (by decide +kernel)
theorem dX11_wantedFrom_8 : decode cX11_wantedFrom 8 = .ok (.getfield 49, 3) := dk_o180 (by decide +kernel)
theorem dX11_wantedFrom_11 : decode cX11_wantedFrom 11 = .ok (.getfield 143, 3) := dk_o180 (by decide +kernel)
theorem dX11_wantedFrom_14 : decode cX11_wantedFrom 14 = .ok (.if_icmp .ge 46, 3) := dk_o162 (by decide +kernel)
theorem dX11_wantedFrom_17 : decode cX11_wantedFrom 17 = .ok (.iload_n 1, 1) := dk_o27 (by decide +kernel)
theorem dX11_wantedFrom_18 : decode cX11_wantedFrom 18 = .ok (.iload 4, 2) := dk_o21 (by decide +kernel)
theorem dX11_wantedFrom_20 : decode cX11_wantedFrom 20 = .ok (.ishr, 1) := dk_o122 (by decide +kernel)
theorem dX11_wantedFrom_21 : decode cX11_wantedFrom 21 = .ok (.iconst 1, 1) := dk_o4 (by decide +kernel)
theorem dX11_wantedFrom_22 : decode cX11_wantedFrom 22 = .ok (.iand, 1) := dk_o126 (by decide +kernel)
theorem dX11_wantedFrom_23 : decode cX11_wantedFrom 23 = .ok (.iconst 1, 1) := dk_o4 (by decide +kernel)
theorem dX11_wantedFrom_24 : decode cX11_wantedFrom 24 = .ok (.if_icmp .ne 30, 3) := dk_o160 (by decide +kernel)
theorem dX11_wantedFrom_27 : decode cX11_wantedFrom 27 = .ok (.aload_n 0, 1) := dk_o42 (by decide +kernel)
theorem dX11_wantedFrom_28 : decode cX11_wantedFrom 28 = .ok (.getfield 49, 3) := dk_o180 (by decide +kernel)
theorem dX11_wantedFrom_31 : decode cX11_wantedFrom 31 = .ok (.getfield 243, 3) := dk_o180 (by decide +kernel)
theorem dX11_wantedFrom_34 : decode cX11_wantedFrom 34 = .ok (.iload 4, 2) := dk_o21 (by decide +kernel)
theorem dX11_wantedFrom_36 : decode cX11_wantedFrom 36 = .ok (.iaload, 1) := dk_o46 (by decide +kernel)
theorem dX11_wantedFrom_37 : decode cX11_wantedFrom 37 = .ok (.iload_n 2, 1) := dk_o28 (by decide +kernel)
theorem dX11_wantedFrom_38 : decode cX11_wantedFrom 38 = .ok (.if_icmp .lt 16, 3) := dk_o161 (by decide +kernel)
theorem dX11_wantedFrom_41 : decode cX11_wantedFrom 41 = .ok (.iload_n 3, 1) := dk_o29 (by decide +kernel)
theorem dX11_wantedFrom_42 : decode cX11_wantedFrom 42 = .ok (.aload_n 0, 1) := dk_o42 (by decide +kernel)
theorem dX11_wantedFrom_43 : decode cX11_wantedFrom 43 = .ok (.getfield 49, 3) := dk_o180 (by decide +kernel)
theorem dX11_wantedFrom_46 : decode cX11_wantedFrom 46 = .ok (.getfield 246, 3) := dk_o180 (by decide +kernel)
theorem dX11_wantedFrom_49 : decode cX11_wantedFrom 49 = .ok (.iload 4, 2) := dk_o21 (by decide +kernel)
theorem dX11_wantedFrom_51 : decode cX11_wantedFrom 51 = .ok (.iaload, 1) := dk_o46 (by decide +kernel)
theorem dX11_wantedFrom_52 : decode cX11_wantedFrom 52 = .ok (.iadd, 1) := dk_o96 (by decide +kernel)
theorem dX11_wantedFrom_53 : decode cX11_wantedFrom 53 = .ok (.istore_n 3, 1) := dk_o62 (by decide +kernel)
theorem dX11_wantedFrom_54 : decode cX11_wantedFrom 54 = .ok (.iinc 4 1, 3) := dk_o132 (by decide +kernel)
theorem dX11_wantedFrom_57 : decode cX11_wantedFrom 57 = .ok (.goto (-52), 3) := dk_o167 (by decide +kernel)
theorem dX11_wantedFrom_60 : decode cX11_wantedFrom 60 = .ok (.iload_n 3, 1) := dk_o29 (by decide +kernel)
theorem dX11_wantedFrom_61 : decode cX11_wantedFrom 61 = .ok (.ireturn, 1) := dk_o172 (by decide +kernel)
theorem dX11_paidFor_0 : decode cX11_paidFor 0 = .ok (.iconst 0, 1) := dk_o3 (by decide +kernel)
theorem dX11_paidFor_1 : decode cX11_paidFor 1 = .ok (.istore_n 2, 1) := dk_o61 (by decide +kernel)
theorem dX11_paidFor_2 : decode cX11_paidFor 2 = .ok (.iconst 0, 1) := dk_o3 (by decide +kernel)
theorem dX11_paidFor_3 : decode cX11_paidFor 3 = .ok (.istore_n 3, 1) := dk_o62 (by decide +kernel)
theorem dX11_paidFor_4 : decode cX11_paidFor 4 = .ok (.iload_n 3, 1) := dk_o29 (by decide +kernel)
theorem dX11_paidFor_5 : decode cX11_paidFor 5 = .ok (.aload_n 0, 1) := dk_o42 (by decide +kernel)
theorem dX11_paidFor_6 : decode cX11_paidFor 6 = .ok (.getfield 49, 3) := dk_o180 (by decide +kernel)
theorem dX11_paidFor_9 : decode cX11_paidFor 9 = .ok (.getfield 143, 3) := dk_o180 (by decide +kernel)
theorem dX11_paidFor_12 : decode cX11_paidFor 12 = .ok (.if_icmp .ge 30, 3) := dk_o162 (by decide +kernel)
theorem dX11_paidFor_15 : decode cX11_paidFor 15 = .ok (.iload_n 1, 1) := dk_o27 (by decide +kernel)
theorem dX11_paidFor_16 : decode cX11_paidFor 16 = .ok (.iload_n 3, 1) := dk_o29 (by decide +kernel)
theorem dX11_paidFor_17 : decode cX11_paidFor 17 = .ok (.ishr, 1) := dk_o122 (by decide +kernel)
theorem dX11_paidFor_18 : decode cX11_paidFor 18 = .ok (.iconst 1, 1) := dk_o4 (by decide +kernel)
theorem dX11_paidFor_19 : decode cX11_paidFor 19 = .ok (.iand, 1) := dk_o126 (by decide +kernel)
theorem dX11_paidFor_20 : decode cX11_paidFor 20 = .ok (.iconst 1, 1) := dk_o4 (by decide +kernel)
theorem dX11_paidFor_21 : decode cX11_paidFor 21 = .ok (.if_icmp .ne 15, 3) := dk_o160 (by decide +kernel)
theorem dX11_paidFor_24 : decode cX11_paidFor 24 = .ok (.iload_n 2, 1) := dk_o28 (by decide +kernel)
theorem dX11_paidFor_25 : decode cX11_paidFor 25 = .ok (.aload_n 0, 1) := dk_o42 (by decide +kernel)
theorem dX11_paidFor_26 : decode cX11_paidFor 26 = .ok (.getfield 49, 3) := dk_o180 (by decide +kernel)
theorem dX11_paidFor_29 : decode cX11_paidFor 29 = .ok (.getfield 249, 3) := dk_o180 (by decide +kernel)
theorem dX11_paidFor_32 : decode cX11_paidFor 32 = .ok (.iload_n 3, 1) := dk_o29 (by decide +kernel)
theorem dX11_paidFor_33 : decode cX11_paidFor 33 = .ok (.iaload, 1) := dk_o46 (by decide +kernel)
theorem dX11_paidFor_34 : decode cX11_paidFor 34 = .ok (.iadd, 1) := dk_o96 (by decide +kernel)
theorem dX11_paidFor_35 : decode cX11_paidFor 35 = .ok (.istore_n 2, 1) := dk_o61 (by decide +kernel)
theorem dX11_paidFor_36 : decode cX11_paidFor 36 = .ok (.iinc 3 1, 3) := dk_o132 (by decide +kernel)
theorem dX11_paidFor_39 : decode cX11_paidFor 39 = .ok (.goto (-35), 3) := dk_o167 (by decide +kernel)
theorem dX11_paidFor_42 : decode cX11_paidFor 42 = .ok (.iload_n 2, 1) := dk_o28 (by decide +kernel)
theorem dX11_paidFor_43 : decode cX11_paidFor 43 = .ok (.ireturn, 1) := dk_o172 (by decide +kernel)
theorem dX11_isBetterSale_0 : decode cX11_isBetterSale 0 = .ok (.aload_n 0, 1) := dk_o42 (by decide +kernel)
theorem dX11_isBetterSale_1 : decode cX11_isBetterSale 1 = .ok (.iload_n 1, 1) := dk_o27 (by decide +kernel)
theorem dX11_isBetterSale_2 : decode cX11_isBetterSale 2 = .ok (.invokevirtual 304, 3) := dk_o182 (by decide +kernel)
theorem dX11_isBetterSale_5 : decode cX11_isBetterSale 5 = .ok (.aload_n 0, 1) := dk_o42 (by decide +kernel)
theorem dX11_isBetterSale_6 : decode cX11_isBetterSale 6 = .ok (.iload_n 2, 1) := dk_o28 (by decide +kernel)
theorem dX11_isBetterSale_7 : decode cX11_isBetterSale 7 = .ok (.invokevirtual 304, 3) := dk_o182 (by decide +kernel)
theorem dX11_isBetterSale_10 : decode cX11_isBetterSale 10 = .ok (.isub, 1) := dk_o100 (by decide +kernel)
theorem dX11_isBetterSale_11 : decode cX11_isBetterSale 11 = .ok (.istore_n 3, 1) := dk_o62 (by decide +kernel)
theorem dX11_isBetterSale_12 : decode cX11_isBetterSale 12 = .ok (.iload_n 3, 1) := dk_o29 (by decide +kernel)
theorem dX11_isBetterSale_13 : decode cX11_isBetterSale 13 = .ok (.ifCond .gt 18, 3) := dk_o157 (by decide +kernel)
theorem dX11_isBetterSale_16 : decode cX11_isBetterSale 16 = .ok (.iload_n 3, 1) := dk_o29 (by decide +kernel)
theorem dX11_isBetterSale_17 : decode cX11_isBetterSale 17 = .ok (.ifCond .ne 18, 3) := dk_o154 (by decide +kernel)
theorem dX11_isBetterSale_20 : decode cX11_isBetterSale 20 = .ok (.iload_n 1, 1) := dk_o27 (by decide +kernel)
theorem dX11_isBetterSale_21 : decode cX11_isBetterSale 21 = .ok (.invokestatic 415, 3) := dk_o184 (by decide +kernel)
theorem dX11_isBetterSale_24 : decode cX11_isBetterSale 24 = .ok (.iload_n 2, 1) := dk_o28 (by decide +kernel)
theorem dX11_isBetterSale_25 : decode cX11_isBetterSale 25 = .ok (.invokestatic 415, 3) := dk_o184 (by decide +kernel)
theorem dX11_isBetterSale_28 : decode cX11_isBetterSale 28 = .ok (.if_icmp .ge 7, 3) := dk_o162 (by decide +kernel)
theorem dX11_isBetterSale_31 : decode cX11_isBetterSale 31 = .ok (.iconst 1, 1) := dk_o4 (by decide +kernel)
theorem dX11_isBetterSale_32 : decode cX11_isBetterSale 32 = .ok (.goto 4, 3) := dk_o167 (by decide +kernel)
theorem dX11_isBetterSale_35 : decode cX11_isBetterSale 35 = .ok (.iconst 0, 1) := dk_o3 (by decide +kernel)
theorem dX11_isBetterSale_36 : decode cX11_isBetterSale 36 = .ok (.ireturn, 1) := dk_o172 (by decide +kernel)
theorem dJ6_bitCount_0f7a4_0 : decode cJ6_bitCount_0f7a4 0 = .ok (.iload_n 0, 1) := dk_o26 (by decide +kernel)
theorem dJ6_bitCount_0f7a4_1 : decode cJ6_bitCount_0f7a4 1 = .ok (.iload_n 0, 1) := dk_o26 (by decide +kernel)
theorem dJ6_bitCount_0f7a4_2 : decode cJ6_bitCount_0f7a4 2 = .ok (.iconst 1, 1) := dk_o4 (by decide +kernel)
theorem dJ6_bitCount_0f7a4_3 : decode cJ6_bitCount_0f7a4 3 = .ok (.iushr, 1) := dk_o124 (by decide +kernel)
theorem dJ6_bitCount_0f7a4_4 : decode cJ6_bitCount_0f7a4 4 = .ok (.ldc_w 265, 3) := dk_o19 (by decide +kernel)
theorem dJ6_bitCount_0f7a4_7 : decode cJ6_bitCount_0f7a4 7 = .ok (.iand, 1) := dk_o126 (by decide +kernel)
theorem dJ6_bitCount_0f7a4_8 : decode cJ6_bitCount_0f7a4 8 = .ok (.isub, 1) := dk_o100 (by decide +kernel)
theorem dJ6_bitCount_0f7a4_9 : decode cJ6_bitCount_0f7a4 9 = .ok (.istore_n 0, 1) := dk_o59 (by decide +kernel)
theorem dJ6_bitCount_0f7a4_10 : decode cJ6_bitCount_0f7a4 10 = .ok (.iload_n 0, 1) := dk_o26 (by decide +kernel)
theorem dJ6_bitCount_0f7a4_11 : decode cJ6_bitCount_0f7a4 11 = .ok (.ldc_w 266, 3) := dk_o19 (by decide +kernel)
theorem dJ6_bitCount_0f7a4_14 : decode cJ6_bitCount_0f7a4 14 = .ok (.iand, 1) := dk_o126 (by decide +kernel)
theorem dJ6_bitCount_0f7a4_15 : decode cJ6_bitCount_0f7a4 15 = .ok (.iload_n 0, 1) := dk_o26 (by decide +kernel)
theorem dJ6_bitCount_0f7a4_16 : decode cJ6_bitCount_0f7a4 16 = .ok (.iconst 2, 1) := dk_o5 (by decide +kernel)
theorem dJ6_bitCount_0f7a4_17 : decode cJ6_bitCount_0f7a4 17 = .ok (.iushr, 1) := dk_o124 (by decide +kernel)
theorem dJ6_bitCount_0f7a4_18 : decode cJ6_bitCount_0f7a4 18 = .ok (.ldc_w 266, 3) := dk_o19 (by decide +kernel)
theorem dJ6_bitCount_0f7a4_21 : decode cJ6_bitCount_0f7a4 21 = .ok (.iand, 1) := dk_o126 (by decide +kernel)
theorem dJ6_bitCount_0f7a4_22 : decode cJ6_bitCount_0f7a4 22 = .ok (.iadd, 1) := dk_o96 (by decide +kernel)
theorem dJ6_bitCount_0f7a4_23 : decode cJ6_bitCount_0f7a4 23 = .ok (.istore_n 0, 1) := dk_o59 (by decide +kernel)
theorem dJ6_bitCount_0f7a4_24 : decode cJ6_bitCount_0f7a4 24 = .ok (.iload_n 0, 1) := dk_o26 (by decide +kernel)
theorem dJ6_bitCount_0f7a4_25 : decode cJ6_bitCount_0f7a4 25 = .ok (.iload_n 0, 1) := dk_o26 (by decide +kernel)
theorem dJ6_bitCount_0f7a4_26 : decode cJ6_bitCount_0f7a4 26 = .ok (.iconst 4, 1) := dk_o7 (by decide +kernel)
theorem dJ6_bitCount_0f7a4_27 : decode cJ6_bitCount_0f7a4 27 = .ok (.iushr, 1) := dk_o124 (by decide +kernel)
theorem dJ6_bitCount_0f7a4_28 : decode cJ6_bitCount_0f7a4 28 = .ok (.iadd, 1) := dk_o96 (by decide +kernel)
theorem dJ6_bitCount_0f7a4_29 : decode cJ6_bitCount_0f7a4 29 = .ok (.ldc_w 267, 3) := dk_o19 (by decide +kernel)
theorem dJ6_bitCount_0f7a4_32 : decode cJ6_bitCount_0f7a4 32 = .ok (.iand, 1) := dk_o126 (by decide +kernel)
theorem dJ6_bitCount_0f7a4_33 : decode cJ6_bitCount_0f7a4 33 = .ok (.istore_n 0, 1) := dk_o59 (by decide +kernel)
theorem dJ6_bitCount_0f7a4_34 : decode cJ6_bitCount_0f7a4 34 = .ok (.iload_n 0, 1) := dk_o26 (by decide +kernel)
theorem dJ6_bitCount_0f7a4_35 : decode cJ6_bitCount_0f7a4 35 = .ok (.iload_n 0, 1) := dk_o26 (by decide +kernel)
theorem dJ6_bitCount_0f7a4_36 : decode cJ6_bitCount_0f7a4 36 = .ok (.bipush 8, 2) := dk_o16 (by decide +kernel)
theorem dJ6_bitCount_0f7a4_38 : decode cJ6_bitCount_0f7a4 38 = .ok (.iushr, 1) := dk_o124 (by decide +kernel)
theorem dJ6_bitCount_0f7a4_39 : decode cJ6_bitCount_0f7a4 39 = .ok (.iadd, 1) := dk_o96 (by decide +kernel)
theorem dJ6_bitCount_0f7a4_40 : decode cJ6_bitCount_0f7a4 40 = .ok (.istore_n 0, 1) := dk_o59 (by decide +kernel)
theorem dJ6_bitCount_0f7a4_41 : decode cJ6_bitCount_0f7a4 41 = .ok (.iload_n 0, 1) := dk_o26 (by decide +kernel)
theorem dJ6_bitCount_0f7a4_42 : decode cJ6_bitCount_0f7a4 42 = .ok (.iload_n 0, 1) := dk_o26 (by decide +kernel)
theorem dJ6_bitCount_0f7a4_43 : decode cJ6_bitCount_0f7a4 43 = .ok (.bipush 16, 2) := dk_o16 (by decide +kernel)
theorem dJ6_bitCount_0f7a4_45 : decode cJ6_bitCount_0f7a4 45 = .ok (.iushr, 1) := dk_o124 (by decide +kernel)
theorem dJ6_bitCount_0f7a4_46 : decode cJ6_bitCount_0f7a4 46 = .ok (.iadd, 1) := dk_o96 (by decide +kernel)
theorem dJ6_bitCount_0f7a4_47 : decode cJ6_bitCount_0f7a4 47 = .ok (.istore_n 0, 1) := dk_o59 (by decide +kernel)
theorem dJ6_bitCount_0f7a4_48 : decode cJ6_bitCount_0f7a4 48 = .ok (.iload_n 0, 1) := dk_o26 (by decide +kernel)
theorem dJ6_bitCount_0f7a4_49 : decode cJ6_bitCount_0f7a4 49 = .ok (.bipush 63, 2) := dk_o16 (by decide +kernel)
theorem dJ6_bitCount_0f7a4_51 : decode cJ6_bitCount_0f7a4 51 = .ok (.iand, 1) := dk_o126 (by decide +kernel)
theorem dJ6_bitCount_0f7a4_52 : decode cJ6_bitCount_0f7a4 52 = .ok (.ireturn, 1) := dk_o172 (by decide +kernel)
theorem wB_833 : Cond.constant RJ6 265 (1431655765) ∈ dgB := List.mem_filter.mpr ⟨tbl_5 _ (List.mem_of_getElem? (i := 184) (by decide +kernel)), by decide +kernel⟩
theorem wB_834 : Cond.constant RJ6 266 (858993459) ∈ dgB := List.mem_filter.mpr ⟨tbl_5 _ (List.mem_of_getElem? (i := 185) (by decide +kernel)), by decide +kernel⟩
theorem wB_835 : Cond.constant RJ6 267 (252645135) ∈ dgB := List.mem_filter.mpr ⟨tbl_5 _ (List.mem_of_getElem? (i := 186) (by decide +kernel)), by decide +kernel⟩
theorem wB_836 : Cond.fieldLink RX11 42 "DarkMine" "refusals" "[I" ∈ dgB := List.mem_filter.mpr ⟨tbl_3 _ (List.mem_of_getElem? (i := 53) (by decide +kernel)), by decide +kernel⟩
theorem wB_837 : Cond.fieldLink RX11 79 "DarkMine" "foresight" "LDarkMine$Foresight;" ∈ dgB := List.mem_filter.mpr ⟨tbl_3 _ (List.mem_of_getElem? (i := 58) (by decide +kernel)), by decide +kernel⟩
theorem wB_838 : Cond.code yX1_forget cX1_forget 1 none ∈ dgB := List.mem_filter.mpr ⟨tbl_4 _ (List.mem_of_getElem? (i := 126) rfl), rfl⟩
theorem wB_839 : Cond.methodLink RX11 380 yX1_forget ∈ dgB := List.mem_filter.mpr ⟨tbl_4 _ (List.mem_of_getElem? (i := 123) (by decide +kernel)), by decide +kernel⟩
theorem wB_840 : Cond.instanceMethod yX1_forget ∈ dgB := List.mem_filter.mpr ⟨tbl_4 _ (List.mem_of_getElem? (i := 124) (by decide +kernel)), by decide +kernel⟩
theorem wB_841 : Cond.selects RX1 yX1_forget yX1_forget ∈ dgB := List.mem_filter.mpr ⟨tbl_4 _ (List.mem_of_getElem? (i := 125) (by decide +kernel)), by decide +kernel⟩
theorem wB_842 : Cond.fieldLink RX11 86 "DarkMine" "feeling" "LDarkMine$Feeling;" ∈ dgB := List.mem_filter.mpr ⟨tbl_3 _ (List.mem_of_getElem? (i := 59) (by decide +kernel)), by decide +kernel⟩
theorem wB_843 : Cond.methodLink RX11 383 yX0_forget ∈ dgB := List.mem_filter.mpr ⟨tbl_4 _ (List.mem_of_getElem? (i := 127) (by decide +kernel)), by decide +kernel⟩
theorem wB_844 : Cond.fieldLink RX11 29 "DarkMine" "history" "LDarkMine$History;" ∈ dgB := List.mem_filter.mpr ⟨tbl_3 _ (List.mem_of_getElem? (i := 51) (by decide +kernel)), by decide +kernel⟩
theorem wB_845 : Cond.code yX3_put cX3_put 2 none ∈ dgB := List.mem_filter.mpr ⟨tbl_6 _ (List.mem_of_getElem? (i := 37) rfl), rfl⟩
theorem wB_846 : Cond.methodLink RX11 378 yX3_put ∈ dgB := List.mem_filter.mpr ⟨tbl_6 _ (List.mem_of_getElem? (i := 34) (by decide +kernel)), by decide +kernel⟩
theorem wB_847 : Cond.instanceMethod yX3_put ∈ dgB := List.mem_filter.mpr ⟨tbl_6 _ (List.mem_of_getElem? (i := 35) (by decide +kernel)), by decide +kernel⟩
theorem wB_848 : Cond.selects RX3 yX3_put yX3_put ∈ dgB := List.mem_filter.mpr ⟨tbl_6 _ (List.mem_of_getElem? (i := 36) (by decide +kernel)), by decide +kernel⟩
theorem wB_849 : Cond.initialized RX3 ∈ dgB := List.mem_filter.mpr ⟨tbl_1 _ (List.mem_of_getElem? (i := 4) (by decide +kernel)), by decide +kernel⟩
theorem wB_850 : Cond.code yX11_forgetTrials cX11_forgetTrials 1 none ∈ dgB := List.mem_filter.mpr ⟨tbl_4 _ (List.mem_of_getElem? (i := 122) rfl), rfl⟩
theorem wB_851 : Cond.methodLink RX11 122 yX11_forgetTrials ∈ dgB := List.mem_filter.mpr ⟨tbl_4 _ (List.mem_of_getElem? (i := 119) (by decide +kernel)), by decide +kernel⟩
theorem wB_852 : Cond.instanceMethod yX11_forgetTrials ∈ dgB := List.mem_filter.mpr ⟨tbl_4 _ (List.mem_of_getElem? (i := 121) (by decide +kernel)), by decide +kernel⟩
theorem wB_853 : Cond.selects RX11 yX11_forgetTrials yX11_forgetTrials ∈ dgB := List.mem_filter.mpr ⟨List.mem_of_getElem? (i := 42) (by decide +kernel), by decide +kernel⟩
theorem wB_854 : Cond.methodLink RX11 315 yX2_hasSeam ∈ dgB := List.mem_filter.mpr ⟨tbl_4 _ (List.mem_of_getElem? (i := 155) (by decide +kernel)), by decide +kernel⟩
theorem wB_855 : Cond.fieldLink RX11 146 "DarkMine$Pit" "shift" "I" ∈ dgB := List.mem_filter.mpr ⟨tbl_1 _ (List.mem_of_getElem? (i := 60) (by decide +kernel)), by decide +kernel⟩
theorem wB_856 : Cond.fieldLink RX11 23 "DarkMine" "trial" "LDarkMine$Pit;" ∈ dgB := List.mem_filter.mpr ⟨tbl_3 _ (List.mem_of_getElem? (i := 50) (by decide +kernel)), by decide +kernel⟩
theorem wB_857 : Cond.methodLink RX11 374 yX5_copy ∈ dgB := List.mem_filter.mpr ⟨tbl_5 _ (List.mem_of_getElem? (i := 92) (by decide +kernel)), by decide +kernel⟩
theorem wB_858 : Cond.fieldLink RX11 70 "DarkMine" "works" "LDarkMine$Works;" ∈ dgB := List.mem_filter.mpr ⟨tbl_3 _ (List.mem_of_getElem? (i := 57) (by decide +kernel)), by decide +kernel⟩
theorem wB_859 : Cond.fieldLink RX11 190 "DarkMine$Ground" "reach" "I" ∈ dgB := List.mem_filter.mpr ⟨tbl_1 _ (List.mem_of_getElem? (i := 197) (by decide +kernel)), by decide +kernel⟩
theorem wB_860 : Cond.methodLink RX11 193 yX10_enter ∈ dgB := List.mem_filter.mpr ⟨tbl_4 _ (List.mem_of_getElem? (i := 156) (by decide +kernel)), by decide +kernel⟩
theorem wB_861 : Cond.methodLink RX11 273 yX10_pass ∈ dgB := List.mem_filter.mpr ⟨tbl_5 _ (List.mem_of_getElem? (i := 96) (by decide +kernel)), by decide +kernel⟩
theorem wB_862 : Cond.fieldLink RX11 384 "DarkMine$Works" "dugMiner" "I" ∈ dgB := List.mem_filter.mpr ⟨tbl_2 _ (List.mem_of_getElem? (i := 160) (by decide +kernel)), by decide +kernel⟩
theorem wB_863 : Cond.fieldLink RX11 387 "DarkMine$Works" "dugPlace" "I" ∈ dgB := List.mem_filter.mpr ⟨tbl_2 _ (List.mem_of_getElem? (i := 162) (by decide +kernel)), by decide +kernel⟩
theorem wB_864 : Cond.fieldLink RX11 390 "DarkMine$Works" "dugGrade" "I" ∈ dgB := List.mem_filter.mpr ⟨tbl_2 _ (List.mem_of_getElem? (i := 164) (by decide +kernel)), by decide +kernel⟩
theorem wB_865 : Cond.code yX3_keep cX3_keep 6 none ∈ dgB := List.mem_filter.mpr ⟨tbl_6 _ (List.mem_of_getElem? (i := 48) rfl), rfl⟩
theorem wB_866 : Cond.methodLink RX11 393 yX3_keep ∈ dgB := List.mem_filter.mpr ⟨tbl_6 _ (List.mem_of_getElem? (i := 45) (by decide +kernel)), by decide +kernel⟩
theorem wB_867 : Cond.instanceMethod yX3_keep ∈ dgB := List.mem_filter.mpr ⟨tbl_6 _ (List.mem_of_getElem? (i := 46) (by decide +kernel)), by decide +kernel⟩
theorem wB_868 : Cond.selects RX3 yX3_keep yX3_keep ∈ dgB := List.mem_filter.mpr ⟨tbl_6 _ (List.mem_of_getElem? (i := 47) (by decide +kernel)), by decide +kernel⟩
theorem wB_869 : Cond.constantLong RX11 406 (1103515245) ∈ dgB := List.mem_filter.mpr ⟨tbl_6 _ (List.mem_of_getElem? (i := 61) (by decide +kernel)), by decide +kernel⟩
theorem wB_870 : Cond.fieldLink RX11 90 "DarkMine" "drawn" "I" ∈ dgB := List.mem_filter.mpr ⟨tbl_3 _ (List.mem_of_getElem? (i := 60) (by decide +kernel)), by decide +kernel⟩
theorem wB_871 : Cond.constantLong RX11 408 (12345) ∈ dgB := List.mem_filter.mpr ⟨tbl_6 _ (List.mem_of_getElem? (i := 62) (by decide +kernel)), by decide +kernel⟩
theorem wB_872 : Cond.constantLong RX11 410 (2147483647) ∈ dgB := List.mem_filter.mpr ⟨tbl_6 _ (List.mem_of_getElem? (i := 63) (by decide +kernel)), by decide +kernel⟩
theorem wB_873 : Cond.code yX11_draw cX11_draw 2 (some .int) ∈ dgB := List.mem_filter.mpr ⟨tbl_6 _ (List.mem_of_getElem? (i := 60) rfl), rfl⟩
theorem wB_874 : Cond.methodLink RX11 397 yX11_draw ∈ dgB := List.mem_filter.mpr ⟨tbl_6 _ (List.mem_of_getElem? (i := 57) (by decide +kernel)), by decide +kernel⟩
theorem wB_875 : Cond.instanceMethod yX11_draw ∈ dgB := List.mem_filter.mpr ⟨tbl_6 _ (List.mem_of_getElem? (i := 59) (by decide +kernel)), by decide +kernel⟩
theorem wB_876 : Cond.selects RX11 yX11_draw yX11_draw ∈ dgB := List.mem_filter.mpr ⟨List.mem_of_getElem? (i := 74) (by decide +kernel), by decide +kernel⟩
theorem wB_877 : Cond.fieldLink RX11 400 "DarkMine$Ground" "quake" "I" ∈ dgB := List.mem_filter.mpr ⟨tbl_1 _ (List.mem_of_getElem? (i := 201) (by decide +kernel)), by decide +kernel⟩
theorem wB_878 : Cond.fieldLink RX11 131 "DarkMine$Ground" "columns" "I" ∈ dgB := List.mem_filter.mpr ⟨tbl_1 _ (List.mem_of_getElem? (i := 179) (by decide +kernel)), by decide +kernel⟩
theorem wB_879 : Cond.fieldLink RX11 134 "DarkMine$Ground" "rows" "I" ∈ dgB := List.mem_filter.mpr ⟨tbl_1 _ (List.mem_of_getElem? (i := 185) (by decide +kernel)), by decide +kernel⟩
theorem wB_880 : Cond.methodLink RX11 187 yX2_placeOf ∈ dgB := List.mem_filter.mpr ⟨tbl_4 _ (List.mem_of_getElem? (i := 220) (by decide +kernel)), by decide +kernel⟩
theorem wB_881 : Cond.methodLink RX11 403 yX10_closeCell ∈ dgB := List.mem_filter.mpr ⟨tbl_6 _ (List.mem_of_getElem? (i := 64) (by decide +kernel)), by decide +kernel⟩
theorem wB_882 : Cond.methodLink RX11 200 yX5_isOpen ∈ dgB := List.mem_filter.mpr ⟨tbl_4 _ (List.mem_of_getElem? (i := 144) (by decide +kernel)), by decide +kernel⟩
theorem wB_883 : Cond.code yX11_flag cX11_flag 1 (some .int) ∈ dgB := List.mem_filter.mpr ⟨tbl_4 _ (List.mem_of_getElem? (i := 150) rfl), rfl⟩
theorem wB_884 : Cond.methodLink RX11 203 yX11_flag ∈ dgB := List.mem_filter.mpr ⟨tbl_4 _ (List.mem_of_getElem? (i := 148) (by decide +kernel)), by decide +kernel⟩
theorem wB_885 : Cond.static yX11_flag ∈ dgB := List.mem_filter.mpr ⟨tbl_4 _ (List.mem_of_getElem? (i := 149) (by decide +kernel)), by decide +kernel⟩
theorem wB_886 : Cond.code yX10_isLit cX10_isLit 3 (some .boolean) ∈ dgB := List.mem_filter.mpr ⟨tbl_4 _ (List.mem_of_getElem? (i := 163) rfl), rfl⟩
theorem wB_887 : Cond.methodLink RX11 207 yX10_isLit ∈ dgB := List.mem_filter.mpr ⟨tbl_4 _ (List.mem_of_getElem? (i := 160) (by decide +kernel)), by decide +kernel⟩
theorem wB_888 : Cond.instanceMethod yX10_isLit ∈ dgB := List.mem_filter.mpr ⟨tbl_4 _ (List.mem_of_getElem? (i := 161) (by decide +kernel)), by decide +kernel⟩
theorem wB_889 : Cond.selects RX10 yX10_isLit yX10_isLit ∈ dgB := List.mem_filter.mpr ⟨tbl_4 _ (List.mem_of_getElem? (i := 162) (by decide +kernel)), by decide +kernel⟩
theorem wB_890 : Cond.fieldLink RX11 210 "DarkMine$Pit" "cells" "[I" ∈ dgB := List.mem_filter.mpr ⟨tbl_1 _ (List.mem_of_getElem? (i := 69) (by decide +kernel)), by decide +kernel⟩
theorem wB_891 : Cond.fieldLink RX11 137 "DarkMine$Ground" "miners" "I" ∈ dgB := List.mem_filter.mpr ⟨tbl_1 _ (List.mem_of_getElem? (i := 207) (by decide +kernel)), by decide +kernel⟩
theorem wB_892 : Cond.fieldLink RX11 222 "DarkMine$Pit" "hurts" "[I" ∈ dgB := List.mem_filter.mpr ⟨tbl_1 _ (List.mem_of_getElem? (i := 74) (by decide +kernel)), by decide +kernel⟩
theorem wB_893 : Cond.fieldLink RX11 252 "DarkMine$Pit" "sold" "[I" ∈ dgB := List.mem_filter.mpr ⟨tbl_1 _ (List.mem_of_getElem? (i := 85) (by decide +kernel)), by decide +kernel⟩
theorem wB_894 : Cond.fieldLink RX11 243 "DarkMine$Ground" "orderGrades" "[I" ∈ dgB := List.mem_filter.mpr ⟨tbl_1 _ (List.mem_of_getElem? (i := 232) (by decide +kernel)), by decide +kernel⟩
theorem wB_895 : Cond.code yX5_tubsFrom cX5_tubsFrom 4 (some .int) ∈ dgB := List.mem_filter.mpr ⟨tbl_4 _ (List.mem_of_getElem? (i := 199) rfl), rfl⟩
theorem wB_896 : Cond.methodLink RX11 162 yX5_tubsFrom ∈ dgB := List.mem_filter.mpr ⟨tbl_4 _ (List.mem_of_getElem? (i := 196) (by decide +kernel)), by decide +kernel⟩
theorem wB_897 : Cond.instanceMethod yX5_tubsFrom ∈ dgB := List.mem_filter.mpr ⟨tbl_4 _ (List.mem_of_getElem? (i := 197) (by decide +kernel)), by decide +kernel⟩
theorem wB_898 : Cond.selects RX5 yX5_tubsFrom yX5_tubsFrom ∈ dgB := List.mem_filter.mpr ⟨tbl_4 _ (List.mem_of_getElem? (i := 198) (by decide +kernel)), by decide +kernel⟩
theorem wB_899 : Cond.fieldLink RX11 246 "DarkMine$Ground" "orderTubs" "[I" ∈ dgB := List.mem_filter.mpr ⟨tbl_1 _ (List.mem_of_getElem? (i := 235) (by decide +kernel)), by decide +kernel⟩
theorem wB_900 : Cond.fieldLink RX11 143 "DarkMine$Ground" "orders" "I" ∈ dgB := List.mem_filter.mpr ⟨tbl_1 _ (List.mem_of_getElem? (i := 226) (by decide +kernel)), by decide +kernel⟩
theorem wB_901 : Cond.fieldLink RX11 249 "DarkMine$Ground" "orderPays" "[I" ∈ dgB := List.mem_filter.mpr ⟨tbl_1 _ (List.mem_of_getElem? (i := 238) (by decide +kernel)), by decide +kernel⟩
theorem wB_902 : Cond.code yX11_wantedFrom cX11_wantedFrom 5 (some .int) ∈ dgB := List.mem_filter.mpr ⟨tbl_5 _ (List.mem_of_getElem? (i := 172) rfl), rfl⟩
theorem wB_903 : Cond.methodLink RX11 412 yX11_wantedFrom ∈ dgB := List.mem_filter.mpr ⟨tbl_5 _ (List.mem_of_getElem? (i := 169) (by decide +kernel)), by decide +kernel⟩
theorem wB_904 : Cond.instanceMethod yX11_wantedFrom ∈ dgB := List.mem_filter.mpr ⟨tbl_5 _ (List.mem_of_getElem? (i := 171) (by decide +kernel)), by decide +kernel⟩
theorem wB_905 : Cond.selects RX11 yX11_wantedFrom yX11_wantedFrom ∈ dgB := List.mem_filter.mpr ⟨List.mem_of_getElem? (i := 62) (by decide +kernel), by decide +kernel⟩
theorem wB_906 : Cond.code yX11_paidFor cX11_paidFor 4 (some .int) ∈ dgB := List.mem_filter.mpr ⟨tbl_5 _ (List.mem_of_getElem? (i := 180) rfl), rfl⟩
theorem wB_907 : Cond.methodLink RX11 304 yX11_paidFor ∈ dgB := List.mem_filter.mpr ⟨tbl_5 _ (List.mem_of_getElem? (i := 177) (by decide +kernel)), by decide +kernel⟩
theorem wB_908 : Cond.instanceMethod yX11_paidFor ∈ dgB := List.mem_filter.mpr ⟨tbl_5 _ (List.mem_of_getElem? (i := 179) (by decide +kernel)), by decide +kernel⟩
theorem wB_909 : Cond.selects RX11 yX11_paidFor yX11_paidFor ∈ dgB := List.mem_filter.mpr ⟨List.mem_of_getElem? (i := 64) (by decide +kernel), by decide +kernel⟩
theorem wB_910 : Cond.code yJ6_bitCount_0f7a4 cJ6_bitCount_0f7a4 1 (some .int) ∈ dgB := List.mem_filter.mpr ⟨tbl_5 _ (List.mem_of_getElem? (i := 183) rfl), rfl⟩
theorem wB_911 : Cond.methodLink RX11 415 yJ6_bitCount_0f7a4 ∈ dgB := List.mem_filter.mpr ⟨tbl_5 _ (List.mem_of_getElem? (i := 181) (by decide +kernel)), by decide +kernel⟩
theorem wB_912 : Cond.static yJ6_bitCount_0f7a4 ∈ dgB := List.mem_filter.mpr ⟨tbl_5 _ (List.mem_of_getElem? (i := 182) (by decide +kernel)), by decide +kernel⟩
theorem wB_913 : Cond.initialized RJ6 ∈ dgB := List.mem_filter.mpr ⟨tbl_1 _ (List.mem_of_getElem? (i := 21) (by decide +kernel)), by decide +kernel⟩
noncomputable def F_bitCount (o : Nat) (S : dg_S) (a1 : Int32) : Int32 := let x_1 : Int32 := (Int32.toUInt32 a1 >>> (Int32.toUInt32 (1 : Int32) &&& Int32.toUInt32 31)).toInt32; let x_2 : Int32 := x_1 &&& (1431655765 : Int32); let x_3 : Int32 := a1 - x_2; let x_4 : Int32 := x_3 &&& (858993459 : Int32); let x_5 : Int32 := (Int32.toUInt32 x_3 >>> (Int32.toUInt32 (2 : Int32) &&& Int32.toUInt32 31)).toInt32; let x_6 : Int32 := x_5 &&& (858993459 : Int32); let x_7 : Int32 := x_4 + x_6; let x_8 : Int32 := (Int32.toUInt32 x_7 >>> (Int32.toUInt32 (4 : Int32) &&& Int32.toUInt32 31)).toInt32; let x_9 : Int32 := x_7 + x_8; let x_10 : Int32 := x_9 &&& (252645135 : Int32); let x_11 : Int32 := (Int32.toUInt32 x_10 >>> (Int32.toUInt32 (8 : Int32) &&& Int32.toUInt32 31)).toInt32; let x_12 : Int32 := x_10 + x_11; let x_13 : Int32 := (Int32.toUInt32 x_12 >>> (Int32.toUInt32 (16 : Int32) &&& Int32.toUInt32 31)).toInt32; let x_14 : Int32 := x_12 + x_13; let x_15 : Int32 := x_14 &&& (63 : Int32); x_15
theorem F_bitCount_p0 {o : Nat} {S : dg_S} {a1 : Int32} {x_15 : Int32} {x_1 : Int32} {x_2 : Int32} {x_3 : Int32} {x_4 : Int32} {x_5 : Int32} {x_6 : Int32} {x_7 : Int32} {x_8 : Int32} {x_9 : Int32} {x_10 : Int32} {x_11 : Int32} {x_12 : Int32} {x_13 : Int32} {x_14 : Int32} (h0 : x_1 = (Int32.toUInt32 a1 >>> (Int32.toUInt32 (1 : Int32) &&& Int32.toUInt32 31)).toInt32) (h1 : x_2 = x_1 &&& (1431655765 : Int32)) (h2 : x_3 = a1 - x_2) (h3 : x_4 = x_3 &&& (858993459 : Int32)) (h4 : x_5 = (Int32.toUInt32 x_3 >>> (Int32.toUInt32 (2 : Int32) &&& Int32.toUInt32 31)).toInt32) (h5 : x_6 = x_5 &&& (858993459 : Int32)) (h6 : x_7 = x_4 + x_6) (h7 : x_8 = (Int32.toUInt32 x_7 >>> (Int32.toUInt32 (4 : Int32) &&& Int32.toUInt32 31)).toInt32) (h8 : x_9 = x_7 + x_8) (h9 : x_10 = x_9 &&& (252645135 : Int32)) (h10 : x_11 = (Int32.toUInt32 x_10 >>> (Int32.toUInt32 (8 : Int32) &&& Int32.toUInt32 31)).toInt32) (h11 : x_12 = x_10 + x_11) (h12 : x_13 = (Int32.toUInt32 x_12 >>> (Int32.toUInt32 (16 : Int32) &&& Int32.toUInt32 31)).toInt32) (h13 : x_14 = x_12 + x_13) (h14 : x_15 = x_14 &&& (63 : Int32)) : F_bitCount o S a1 = x_15 := by
  replace h0 := Eq.symm h0
  subst h0
  replace h1 := Eq.symm h1
  subst h1
  replace h2 := Eq.symm h2
  subst h2
  replace h3 := Eq.symm h3
  subst h3
  replace h4 := Eq.symm h4
  subst h4
  replace h5 := Eq.symm h5
  subst h5
  replace h6 := Eq.symm h6
  subst h6
  replace h7 := Eq.symm h7
  subst h7
  replace h8 := Eq.symm h8
  subst h8
  replace h9 := Eq.symm h9
  subst h9
  replace h10 := Eq.symm h10
  subst h10
  replace h11 := Eq.symm h11
  subst h11
  replace h12 := Eq.symm h12
  subst h12
  replace h13 := Eq.symm h13
  subst h13
  replace h14 := Eq.symm h14
  subst h14
  exact rfl
set_option maxHeartbeats 8000000 in
set_option maxRecDepth 100000 in
theorem c_bitCount (l : Launch) (g : Nat → ClassId) (D : va_G) (o : Nat) (S : dg_S) (a1 : Int32) (I : CX o S) (sz : Nat) : Met l yJ6_bitCount_0f7a4 (bw yJ6_bitCount_0f7a4 cJ6_bitCount_0f7a4 1 (some .int)) ({ frames := 1, cells := 0, slots := 0, locals := 32 } : Room) (dk_Pc g D (dg_w g shX o rfX S) sz [.int a1]) (va_Qi (fun (r : Int32) S' => S' = S ∧ (r = F_bitCount o S a1) ∧ True) (dg_B g D shX o rfX) (dg_A o shX.length sz)) 0 0 (dg_A o shX.length sz) := by
  refine dg_metF (cc := cJ6_bitCount_0f7a4) (maxL := 1) (ret := (some .int)) (by decide +kernel) rfl (Nat.le_of_ble_eq_true rfl) ?_
  intro p e s m args below meth c A hAe harg hx hb hr hml hts hown hlocks hin hP K hS hA1 hA ST hsz ls hl
  rw [← hAe]
  have F : CallFix p m c cJ6_bitCount_0f7a4 1 s args (bw yJ6_bitCount_0f7a4 cJ6_bitCount_0f7a4 1 (some .int)) RJ6 := ⟨hx, hb, hml, hown, hts⟩
  have hl : lv_has ls 1 [(0, .int a1)] := hl
  have M_0 : dg_sm shX [] [] S S := dg_sm.rf
  refine lv_iload_n hx hb dJ6_bitCount_0f7a4_0 rfl (lv_at hl 0 rfl) ?_
  refine lv_iload_n hx hb dJ6_bitCount_0f7a4_1 rfl (lv_at hl 0 rfl) ?_
  refine lv_iconst (v := 1) hx hb dJ6_bitCount_0f7a4_2 (by decide +kernel) ?_
  refine lv_iushr hx hb dJ6_bitCount_0f7a4_3 rfl ?_
  refine lv_topi (fun x_1 ex_1 => ?_)
  refine lv_ldcw hx hb hown (hts _ (bw_mem wB_833)) dJ6_bitCount_0f7a4_4 ?_
  refine lv_iand hx hb dJ6_bitCount_0f7a4_7 ?_
  refine lv_topi (fun x_2 ex_2 => ?_)
  refine lv_isub hx hb dJ6_bitCount_0f7a4_8 ?_
  refine lv_topi (fun x_3 ex_3 => ?_)
  refine lv_istore_n (lv' := [(0, .int x_3)]) hx hb dJ6_bitCount_0f7a4_9 rfl hl (dk_dq rfl) rfl (fun ls hl => ?_)
  refine lv_iload_n hx hb dJ6_bitCount_0f7a4_10 rfl (lv_at hl 0 rfl) ?_
  refine lv_ldcw hx hb hown (hts _ (bw_mem wB_834)) dJ6_bitCount_0f7a4_11 ?_
  refine lv_iand hx hb dJ6_bitCount_0f7a4_14 ?_
  refine lv_topi (fun x_4 ex_4 => ?_)
  refine lv_iload_n hx hb dJ6_bitCount_0f7a4_15 rfl (lv_at hl 0 rfl) ?_
  refine lv_iconst (v := 2) hx hb dJ6_bitCount_0f7a4_16 (by decide +kernel) ?_
  refine lv_iushr hx hb dJ6_bitCount_0f7a4_17 rfl ?_
  refine lv_topi (fun x_5 ex_5 => ?_)
  refine lv_ldcw hx hb hown (hts _ (bw_mem wB_834)) dJ6_bitCount_0f7a4_18 ?_
  refine lv_iand hx hb dJ6_bitCount_0f7a4_21 ?_
  refine lv_topi (fun x_6 ex_6 => ?_)
  refine lv_iadd hx hb dJ6_bitCount_0f7a4_22 ?_
  refine lv_topi (fun x_7 ex_7 => ?_)
  refine lv_istore_n (lv' := [(0, .int x_7)]) hx hb dJ6_bitCount_0f7a4_23 rfl hl (dk_dq rfl) rfl (fun ls hl => ?_)
  refine lv_iload_n hx hb dJ6_bitCount_0f7a4_24 rfl (lv_at hl 0 rfl) ?_
  refine lv_iload_n hx hb dJ6_bitCount_0f7a4_25 rfl (lv_at hl 0 rfl) ?_
  refine lv_iconst (v := 4) hx hb dJ6_bitCount_0f7a4_26 (by decide +kernel) ?_
  refine lv_iushr hx hb dJ6_bitCount_0f7a4_27 rfl ?_
  refine lv_topi (fun x_8 ex_8 => ?_)
  refine lv_iadd hx hb dJ6_bitCount_0f7a4_28 ?_
  refine lv_topi (fun x_9 ex_9 => ?_)
  refine lv_ldcw hx hb hown (hts _ (bw_mem wB_835)) dJ6_bitCount_0f7a4_29 ?_
  refine lv_iand hx hb dJ6_bitCount_0f7a4_32 ?_
  as_aux_lemma =>
    refine lv_topi (fun x_10 ex_10 => ?_)
    refine lv_istore_n (lv' := [(0, .int x_10)]) hx hb dJ6_bitCount_0f7a4_33 rfl hl (dk_dq rfl) rfl (fun ls hl => ?_)
    refine lv_iload_n hx hb dJ6_bitCount_0f7a4_34 rfl (lv_at hl 0 rfl) ?_
    refine lv_iload_n hx hb dJ6_bitCount_0f7a4_35 rfl (lv_at hl 0 rfl) ?_
    refine lv_bipush (v := 8) hx hb dJ6_bitCount_0f7a4_36 (by decide +kernel) ?_
    refine lv_iushr hx hb dJ6_bitCount_0f7a4_38 rfl ?_
    refine lv_topi (fun x_11 ex_11 => ?_)
    refine lv_iadd hx hb dJ6_bitCount_0f7a4_39 ?_
    refine lv_topi (fun x_12 ex_12 => ?_)
    refine lv_istore_n (lv' := [(0, .int x_12)]) hx hb dJ6_bitCount_0f7a4_40 rfl hl (dk_dq rfl) rfl (fun ls hl => ?_)
    refine lv_iload_n hx hb dJ6_bitCount_0f7a4_41 rfl (lv_at hl 0 rfl) ?_
    refine lv_iload_n hx hb dJ6_bitCount_0f7a4_42 rfl (lv_at hl 0 rfl) ?_
    refine lv_bipush (v := 16) hx hb dJ6_bitCount_0f7a4_43 (by decide +kernel) ?_
    refine lv_iushr hx hb dJ6_bitCount_0f7a4_45 rfl ?_
    refine lv_topi (fun x_13 ex_13 => ?_)
    refine lv_iadd hx hb dJ6_bitCount_0f7a4_46 ?_
    refine lv_topi (fun x_14 ex_14 => ?_)
    refine lv_istore_n (lv' := [(0, .int x_14)]) hx hb dJ6_bitCount_0f7a4_47 rfl hl (dk_dq rfl) rfl (fun ls hl => ?_)
    refine lv_iload_n hx hb dJ6_bitCount_0f7a4_48 rfl (lv_at hl 0 rfl) ?_
    refine lv_bipush (v := 63) hx hb dJ6_bitCount_0f7a4_49 (by decide +kernel) ?_
    refine lv_iand hx hb dJ6_bitCount_0f7a4_51 ?_
    refine lv_topi (fun x_15 ex_15 => ?_)
    refine W.widen (k := 0) (n := 0) (Nat.le_of_ble_eq_true rfl) (Nat.le_of_ble_eq_true rfl) ?_
    exact dg_iret hx hb hr hlocks rfl hP hS ⟨rfl, (Eq.symm (F_bitCount_p0 ex_1 ex_2 ex_3 ex_4 ex_5 ex_6 ex_7 ex_8 ex_9 ex_10 ex_11 ex_12 ex_13 ex_14 ex_15)), trivial⟩ dJ6_bitCount_0f7a4_52
noncomputable def F_d_none (o : Nat) (S : dg_S) (a1 : Int32) : dg_S × Int32 := let x_2 : Int32 := S.2.1 184 (a1 : Int32).toNatClampNeg; let x_3 : Int32 := x_2 + (1 : Int32); let S_5 : dg_S := dg_uf S 184 (upd (S.2.1 184) (a1 : Int32).toNatClampNeg x_3); (S_5, (-1 : Int32))
theorem F_d_none_p0 {o : Nat} {S : dg_S} {a1 : Int32} {S_5 : dg_S} {x_2 : Int32} {x_3 : Int32} (h0 : x_2 = S.2.1 184 (a1 : Int32).toNatClampNeg) (h1 : x_3 = x_2 + (1 : Int32)) (h2 : S_5 = dg_uf S 184 (upd (S.2.1 184) (a1 : Int32).toNatClampNeg x_3)) : F_d_none o S a1 = (S_5, (-1 : Int32)) := by
  replace h0 := Eq.symm h0
  subst h0
  replace h1 := Eq.symm h1
  subst h1
  replace h2 := Eq.symm h2
  subst h2
  exact rfl
set_option maxHeartbeats 8000000 in
set_option maxRecDepth 100000 in
theorem c_d_none (l : Launch) (g : Nat → ClassId) (D : va_G) (o : Nat) (S : dg_S) (a1 : Int32) (b_a1 : 0 ≤ (a1).toInt ∧ (a1).toInt ≤ 5) (Z1 : Z1X S) (Z2 : Z2X S) (Z3 : Z3X o S) (Z4 : Z4X S) (Z6 : Z6X S) (I : CX o S) (sz : Nat) : Met l yX11_none (bw yX11_none cX11_none 2 (some .int)) ({ frames := 1, cells := 0, slots := 0, locals := 32 } : Room) (dk_Pc g D (dg_w g shX o rfX S) sz [.ref (o + 0), .int a1]) (va_Qi (fun (r : Int32) S' => CX o S' ∧ dg_sm shX [] [18] S S' ∧ ((-1) ≤ (r).toInt ∧ (r).toInt ≤ (-1)) ∧ (S' = (F_d_none o S a1).1 ∧ r = (F_d_none o S a1).2) ∧ True) (dg_B g D shX o rfX) (dg_A o shX.length sz)) 0 0 (dg_A o shX.length sz) := by
  refine dg_met (cc := cX11_none) (maxL := 2) (ret := (some .int)) (dk_dq rfl) rfl (Nat.le_of_ble_eq_true rfl) ?_
  intro p e s m args below meth c A hAe harg hx hb hr hml hts hown hlocks hin hP K hS hA1 hA ST hsz ls hl
  rw [← hAe]
  have F : CallFix p m c cX11_none 2 s args (bw yX11_none cX11_none 2 (some .int)) RX11 := ⟨hx, hb, hml, hown, hts⟩
  have hl : lv_has ls 2 [(0, .ref (o + 0)), (1, .int a1)] := hl
  have M_0 : dg_sm shX [] [18] S S := dg_sm.rf
  refine lv_aload_n hx hb dX11_none_0 rfl (lv_at hl 0 rfl) ?_
  refine dg_get (C := RX11) (T := TX11) (N := 13) hx hb hts (fun w h => bw_mem (wU_X11 w h)) hown K hP sX_0 rfl 5 (dk_dq rfl) (hts _ (bw_mem wB_836)) (fun _ h9 => h9) (v := .ref (o + 184)) (show S.1 0 5 = .ref (o + 184) from dg_I.rel (d := 184) I sX_0 (by decide +kernel)) dX11_none_1 ?_
  refine lv_iload_n hx hb dX11_none_4 rfl (lv_at hl 1 rfl) ?_
  refine lv_dup2_11 hx hb dX11_none_5 rfl rfl ?_
  have hin_1 : vp_in a1 6 := (dk_inv2 (by omega))
  refine dg_iald hx hb K hP sX_184 hin_1 dX11_none_6 (fun x_2 ex_2 => ?_)
  refine lv_iconst (v := 1) hx hb dX11_none_7 (by decide +kernel) ?_
  refine lv_iadd hx hb dX11_none_8 ?_
  refine lv_topi (fun x_3 ex_3 => ?_)
  have hin_4 : vp_in a1 6 := (dk_inv2 (by omega))
  refine dg_iast hx hb K hP hS hA1 sX_184 hin_4 dX11_none_9 (fun S_5 e_5 H locs hP hS => ?_)
  have I_5 := dg_I.uf0 I e_5 sX_184 (by decide +kernel)
  have M_5 := dg_sm.uf M_0 e_5 sX_184 (dk_dq rfl)
  refine lv_iconst (v := (-1)) hx hb dX11_none_10 (by decide +kernel) ?_
  have hz_6 : (-1 : Int32).toInt = (-1) := by decide +kernel
  refine W.widen (k := 0) (n := 0) (Nat.le_of_ble_eq_true rfl) (Nat.le_of_ble_eq_true rfl) ?_
  exact dg_iret hx hb hr hlocks rfl hP hS ⟨I_5, M_5, (by decide +kernel), ⟨congrArg Prod.fst (Eq.symm (F_d_none_p0 (Eq.symm ex_2.symm) ex_3 e_5)), congrArg Prod.snd (Eq.symm (F_d_none_p0 (Eq.symm ex_2.symm) ex_3 e_5))⟩, trivial⟩ dX11_none_11
noncomputable def F_d_no (o : Nat) (S : dg_S) (a1 : Int32) : dg_S × Int32 := let x_2 : Int32 := S.2.1 184 (a1 : Int32).toNatClampNeg; let x_3 : Int32 := x_2 + (1 : Int32); let S_5 : dg_S := dg_uf S 184 (upd (S.2.1 184) (a1 : Int32).toNatClampNeg x_3); (S_5, (0 : Int32))
theorem F_d_no_p0 {o : Nat} {S : dg_S} {a1 : Int32} {S_5 : dg_S} {x_2 : Int32} {x_3 : Int32} (h0 : x_2 = S.2.1 184 (a1 : Int32).toNatClampNeg) (h1 : x_3 = x_2 + (1 : Int32)) (h2 : S_5 = dg_uf S 184 (upd (S.2.1 184) (a1 : Int32).toNatClampNeg x_3)) : F_d_no o S a1 = (S_5, (0 : Int32)) := by
  replace h0 := Eq.symm h0
  subst h0
  replace h1 := Eq.symm h1
  subst h1
  replace h2 := Eq.symm h2
  subst h2
  exact rfl
set_option maxHeartbeats 8000000 in
set_option maxRecDepth 100000 in
theorem c_d_no (l : Launch) (g : Nat → ClassId) (D : va_G) (o : Nat) (S : dg_S) (a1 : Int32) (b_a1 : 0 ≤ (a1).toInt ∧ (a1).toInt ≤ 5) (Z1 : Z1X S) (Z2 : Z2X S) (Z3 : Z3X o S) (Z4 : Z4X S) (Z6 : Z6X S) (I : CX o S) (sz : Nat) : Met l yX11_no (bw yX11_no cX11_no 2 (some .boolean)) ({ frames := 1, cells := 0, slots := 0, locals := 32 } : Room) (dk_Pc g D (dg_w g shX o rfX S) sz [.ref (o + 0), .int a1]) (va_Qi (fun (r : Int32) S' => CX o S' ∧ dg_sm shX [] [18] S S' ∧ (0 ≤ (r).toInt ∧ (r).toInt ≤ 0) ∧ (S' = (F_d_no o S a1).1 ∧ r = (F_d_no o S a1).2) ∧ True) (dg_B g D shX o rfX) (dg_A o shX.length sz)) 0 0 (dg_A o shX.length sz) := by
  refine dg_met (cc := cX11_no) (maxL := 2) (ret := (some .boolean)) (dk_dq rfl) rfl (Nat.le_of_ble_eq_true rfl) ?_
  intro p e s m args below meth c A hAe harg hx hb hr hml hts hown hlocks hin hP K hS hA1 hA ST hsz ls hl
  rw [← hAe]
  have F : CallFix p m c cX11_no 2 s args (bw yX11_no cX11_no 2 (some .boolean)) RX11 := ⟨hx, hb, hml, hown, hts⟩
  have hl : lv_has ls 2 [(0, .ref (o + 0)), (1, .int a1)] := hl
  have M_0 : dg_sm shX [] [18] S S := dg_sm.rf
  refine lv_aload_n hx hb dX11_no_0 rfl (lv_at hl 0 rfl) ?_
  refine dg_get (C := RX11) (T := TX11) (N := 13) hx hb hts (fun w h => bw_mem (wU_X11 w h)) hown K hP sX_0 rfl 5 (dk_dq rfl) (hts _ (bw_mem wB_836)) (fun _ h9 => h9) (v := .ref (o + 184)) (show S.1 0 5 = .ref (o + 184) from dg_I.rel (d := 184) I sX_0 (by decide +kernel)) dX11_no_1 ?_
  refine lv_iload_n hx hb dX11_no_4 rfl (lv_at hl 1 rfl) ?_
  refine lv_dup2_11 hx hb dX11_no_5 rfl rfl ?_
  have hin_1 : vp_in a1 6 := (dk_inv2 (by omega))
  refine dg_iald hx hb K hP sX_184 hin_1 dX11_no_6 (fun x_2 ex_2 => ?_)
  refine lv_iconst (v := 1) hx hb dX11_no_7 (by decide +kernel) ?_
  refine lv_iadd hx hb dX11_no_8 ?_
  refine lv_topi (fun x_3 ex_3 => ?_)
  have hin_4 : vp_in a1 6 := (dk_inv2 (by omega))
  refine dg_iast hx hb K hP hS hA1 sX_184 hin_4 dX11_no_9 (fun S_5 e_5 H locs hP hS => ?_)
  have I_5 := dg_I.uf0 I e_5 sX_184 (by decide +kernel)
  have M_5 := dg_sm.uf M_0 e_5 sX_184 (dk_dq rfl)
  refine lv_iconst (v := 0) hx hb dX11_no_10 (by decide +kernel) ?_
  have hz_6 : (0 : Int32).toInt = 0 := by decide +kernel
  refine W.widen (k := 0) (n := 0) (Nat.le_of_ble_eq_true rfl) (Nat.le_of_ble_eq_true rfl) ?_
  exact dg_iret hx hb hr hlocks (by decide +kernel) hP hS ⟨I_5, M_5, (by decide +kernel), ⟨congrArg Prod.fst (Eq.symm (F_d_no_p0 (Eq.symm ex_2.symm) ex_3 e_5)), congrArg Prod.snd (Eq.symm (F_d_no_p0 (Eq.symm ex_2.symm) ex_3 e_5))⟩, trivial⟩ dX11_no_11
noncomputable def F_d_forgetTrials (o : Nat) (S : dg_S) : dg_S := let S_1 : dg_S := F_f_forget o S; let y_2 : Int32 := zI S_1 221 2; let y_3 : Int32 := zI S_1 221 3; let S_4 : dg_S := F_e_forget o S_1; let y_5 : Int32 := zI S_4 229 4; (S_4)
theorem F_d_forgetTrials_p0 {o : Nat} {S : dg_S} {S_4 : dg_S} {S_1 : dg_S} (h0 : S_1 = F_f_forget o S) (h1 : S_4 = F_e_forget o S_1) : F_d_forgetTrials o S = S_4 := by
  replace h0 := Eq.symm h0
  subst h0
  replace h1 := Eq.symm h1
  subst h1
  exact rfl
set_option maxHeartbeats 8000000 in
set_option maxRecDepth 100000 in
theorem c_d_forgetTrials (l : Launch) (g : Nat → ClassId) (D : va_G) (o : Nat) (S : dg_S) (Z1 : Z1X S) (Z2 : Z2X S) (Z3 : Z3X o S) (Z4 : Z4X S) (Z6 : Z6X S) (I : CX o S) (sz : Nat) : Met l yX11_forgetTrials (bw yX11_forgetTrials cX11_forgetTrials 1 none) ({ frames := 2, cells := 0, slots := 0, locals := 52 } : Room) (dk_Pc g D (dg_w g shX o rfX S) sz [.ref (o + 0)]) (va_Qv (fun S' => CX o S' ∧ dg_sm shX [(43, 2), (43, 3), (44, 4)] [] S S' ∧ (∃ y9 : Int32, S'.1 221 2 = .int y9 ∧ ((y9).toInt = 0)) ∧ (∃ y9 : Int32, S'.1 221 3 = .int y9 ∧ ((y9).toInt = 0)) ∧ (∃ y9 : Int32, S'.1 229 4 = .int y9 ∧ ((y9).toInt = 0)) ∧ (S' = F_d_forgetTrials o S) ∧ True) (dg_B g D shX o rfX) (dg_A o shX.length sz)) 0 0 (dg_A o shX.length sz) := by
  refine dg_met (cc := cX11_forgetTrials) (maxL := 1) (ret := none) (dk_dq rfl) rfl (Nat.le_of_ble_eq_true rfl) ?_
  intro p e s m args below meth c A hAe harg hx hb hr hml hts hown hlocks hin hP K hS hA1 hA ST hsz ls hl
  rw [← hAe]
  have F : CallFix p m c cX11_forgetTrials 1 s args (bw yX11_forgetTrials cX11_forgetTrials 1 none) RX11 := ⟨hx, hb, hml, hown, hts⟩
  have hl : lv_has ls 1 [(0, .ref (o + 0))] := hl
  have M_0 : dg_sm shX [(43, 2), (43, 3), (44, 4)] [] S S := dg_sm.rf
  refine lv_aload_n hx hb dX11_forgetTrials_0 rfl (lv_at hl 0 rfl) ?_
  refine dg_get (C := RX11) (T := TX11) (N := 13) hx hb hts (fun w h => bw_mem (wU_X11 w h)) hown K hP sX_0 rfl 10 (dk_dq rfl) (hts _ (bw_mem wB_837)) (fun _ h9 => h9) (v := .ref (o + 221)) (show S.1 0 10 = .ref (o + 221) from dg_I.rel (d := 221) I sX_0 (by decide +kernel)) dX11_forgetTrials_1 ?_
  refine dg_callv hS hA1 hA (va_runV (As := []) (rest := []) F (c_f_forget l g D o S I s.heap.size) (cwV 0 hts (bw_V wB_839 wB_840 wB_841 wB_693 wB_838) rfl rfl rfl (by decide +kernel) ⟨Nat.le_of_ble_eq_true rfl, Nat.le_of_ble_eq_true rfl⟩) (dg_preV sX_221 rfl K ST hP hS hA1 hA) rfl rfl hl.1 rfl (lv_room (Nat.le_of_ble_eq_true rfl)) dX11_forgetTrials_4 ⟨Nat.le_of_ble_eq_true rfl, Nat.le_of_ble_eq_true rfl⟩) (fun S_1 hw_1 H locs hP hS => ?_)
  obtain ⟨I_1, m_1, w_1_0, w_1_1, w_1_2, -⟩ := hw_1
  have M_1 := dg_sm.tr M_0 m_1 (dk_dq rfl) (dk_dq rfl)
  obtain ⟨y_2, f_y_2, w_1_0⟩ := w_1_0
  have w_1_0 : (y_2).toInt = 0 := w_1_0
  obtain ⟨y_3, f_y_3, w_1_1⟩ := w_1_1
  have w_1_1 : (y_3).toInt = 0 := w_1_1
  refine lv_aload_n hx hb dX11_forgetTrials_7 rfl (lv_at hl 0 rfl) ?_
  refine dg_get (C := RX11) (T := TX11) (N := 13) hx hb hts (fun w h => bw_mem (wU_X11 w h)) hown K hP sX_0 rfl 11 (dk_dq rfl) (hts _ (bw_mem wB_842)) (fun _ h9 => h9) (v := .ref (o + 229)) (show S_1.1 0 11 = .ref (o + 229) from dg_I.rel (d := 229) I_1 sX_0 (by decide +kernel)) dX11_forgetTrials_8 ?_
  refine dg_callv hS hA1 hA (va_runV (As := []) (rest := []) F (c_e_forget l g D o S_1 I_1 H.size) (cwV 0 hts (bw_V wB_843 wB_736 wB_737 wB_730 wB_734) rfl rfl rfl (by decide +kernel) ⟨Nat.le_of_ble_eq_true rfl, Nat.le_of_ble_eq_true rfl⟩) (dg_preV sX_229 rfl K ST hP hS hA1 hA) rfl rfl hl.1 rfl (lv_room (Nat.le_of_ble_eq_true rfl)) dX11_forgetTrials_11 ⟨Nat.le_of_ble_eq_true rfl, Nat.le_of_ble_eq_true rfl⟩) (fun S_4 hw_4 H locs hP hS => ?_)
  obtain ⟨I_4, m_4, w_4_0, w_4_1, -⟩ := hw_4
  have M_4 := dg_sm.tr M_1 m_4 (dk_dq rfl) (dk_dq rfl)
  obtain ⟨y_5, f_y_5, w_4_0⟩ := w_4_0
  have w_4_0 : (y_5).toInt = 0 := w_4_0
  have b_y_5 : 0 ≤ (y_5).toInt ∧ (y_5).toInt ≤ 1 := dg_I.intb (lo := 0) (hi := 1) I_4 sX_229 (by decide +kernel) f_y_5
  refine W.widen (k := 0) (n := 0) (Nat.le_of_ble_eq_true rfl) (Nat.le_of_ble_eq_true rfl) ?_
  exact dg_vret hx hb hr hlocks hP hS ⟨I_4, M_4, ⟨y_2, ((m_4.1 221 2 _ sX_221 (dk_dq rfl)).trans f_y_2), (by omega)⟩, ⟨y_3, ((m_4.1 221 3 _ sX_221 (dk_dq rfl)).trans f_y_3), (by omega)⟩, ⟨y_5, f_y_5, (by omega)⟩, (Eq.symm (F_d_forgetTrials_p0 w_1_2 w_4_1)), trivial⟩ dX11_forgetTrials_14
noncomputable def F_d_beginAct (o : Nat) (S : dg_S) : dg_S := let S_1 : dg_S := F_h_put o S 3; let S_2 : dg_S := F_d_forgetTrials o S_1; let y_3 : Int32 := zI S_2 221 2; let y_4 : Int32 := zI S_2 221 3; let y_5 : Int32 := zI S_2 229 4; (S_2)
theorem F_d_beginAct_p0 {o : Nat} {S : dg_S} {S_2 : dg_S} {S_1 : dg_S} (h0 : S_1 = F_h_put o S 3) (h1 : S_2 = F_d_forgetTrials o S_1) : F_d_beginAct o S = S_2 := by
  replace h0 := Eq.symm h0
  subst h0
  replace h1 := Eq.symm h1
  subst h1
  exact rfl
set_option maxHeartbeats 8000000 in
set_option maxRecDepth 100000 in
theorem c_d_beginAct (l : Launch) (g : Nat → ClassId) (D : va_G) (o : Nat) (S : dg_S) (Z1 : Z1X S) (Z2 : Z2X S) (Z3 : Z3X o S) (Z4 : Z4X S) (Z6 : Z6X S) (I : CX o S) (sz : Nat) : Met l yX11_beginAct (bw yX11_beginAct cX11_beginAct 1 none) ({ frames := 4, cells := 0, slots := 0, locals := 82 } : Room) (dk_Pc g D (dg_w g shX o rfX S) sz [.ref (o + 0)]) (va_Qv (fun S' => CX o S' ∧ dg_sm shX [(3, 0), (3, 1), (10, 2), (10, 3), (43, 2), (43, 3), (44, 4)] [4, 5, 6, 7, 8, 9, 14, 15] S S' ∧ (∃ y9 : Int32, S'.1 221 2 = .int y9 ∧ ((y9).toInt = 0)) ∧ (∃ y9 : Int32, S'.1 221 3 = .int y9 ∧ ((y9).toInt = 0)) ∧ (∃ y9 : Int32, S'.1 229 4 = .int y9 ∧ ((y9).toInt = 0)) ∧ Z3X o S' ∧ Z4X S' ∧ Z6X S' ∧ dg_FG S S' ∧ (S' = F_d_beginAct o S) ∧ True) (dg_B g D shX o rfX) (dg_A o shX.length sz)) 0 0 (dg_A o shX.length sz) := by
  refine dg_met (cc := cX11_beginAct) (maxL := 1) (ret := none) (dk_dq rfl) rfl (Nat.le_of_ble_eq_true rfl) ?_
  intro p e s m args below meth c A hAe harg hx hb hr hml hts hown hlocks hin hP K hS hA1 hA ST hsz ls hl
  rw [← hAe]
  have F : CallFix p m c cX11_beginAct 1 s args (bw yX11_beginAct cX11_beginAct 1 none) RX11 := ⟨hx, hb, hml, hown, hts⟩
  have hl : lv_has ls 1 [(0, .ref (o + 0))] := hl
  have M_0 : dg_sm shX [(3, 0), (3, 1), (10, 2), (10, 3), (43, 2), (43, 3), (44, 4)] [4, 5, 6, 7, 8, 9, 14, 15] S S := dg_sm.rf
  refine lv_aload_n hx hb dX11_beginAct_0 rfl (lv_at hl 0 rfl) ?_
  refine dg_get (C := RX11) (T := TX11) (N := 13) hx hb hts (fun w h => bw_mem (wU_X11 w h)) hown K hP sX_0 rfl 3 (dk_dq rfl) (hts _ (bw_mem wB_844)) (fun _ h9 => h9) (v := .ref (o + 17)) (show S.1 0 3 = .ref (o + 17) from dg_I.rel (d := 17) I sX_0 (by decide +kernel)) dX11_beginAct_1 ?_
  refine lv_aload_n hx hb dX11_beginAct_4 rfl (lv_at hl 0 rfl) ?_
  refine dg_get (C := RX11) (T := TX11) (N := 13) hx hb hts (fun w h => bw_mem (wU_X11 w h)) hown K hP sX_0 rfl 1 (dk_dq rfl) (hts _ (bw_mem wB_287)) (fun _ h9 => h9) (v := .ref (o + 3)) (show S.1 0 1 = .ref (o + 3) from dg_I.rel (d := 3) I sX_0 (by decide +kernel)) dX11_beginAct_5 ?_
  refine dg_callv hS hA1 hA (va_runV (As := [.ref (o + 3)]) (rest := []) F (c_h_put l g D o S 3 (by unfold pX; decide : pX 3) Z6 Z4 I s.heap.size) (cwV 1 hts (bw_V wB_846 wB_847 wB_848 wB_849 wB_845) rfl rfl rfl (by decide +kernel) ⟨Nat.le_of_ble_eq_true rfl, Nat.le_of_ble_eq_true rfl⟩) (dg_preV sX_17 rfl K ST hP hS hA1 hA) rfl rfl hl.1 rfl (lv_room (Nat.le_of_ble_eq_true rfl)) dX11_beginAct_8 ⟨Nat.le_of_ble_eq_true rfl, Nat.le_of_ble_eq_true rfl⟩) (fun S_1 hw_1 H locs hP hS => ?_)
  obtain ⟨I_1, m_1, w_1_0, w_1_1, w_1_2, -⟩ := hw_1
  have M_1 := dg_sm.tr M_0 m_1 (dk_dq rfl) (dk_dq rfl)
  refine lv_aload_n hx hb dX11_beginAct_11 rfl (lv_at hl 0 rfl) ?_
  refine dg_callv hS hA1 hA (va_runV (As := []) (rest := []) F (c_d_forgetTrials l g D o S_1 (Z1X.keep Z1 m_1 (dk_dq rfl) (dk_dq rfl) (dk_dq rfl)) (Z2X.keep Z2 m_1 (dk_dq rfl) (dk_dq rfl)) (Z3X.keep Z3 m_1 w_1_1 (dk_dq rfl)) w_1_0 (Z6X.keep Z6 m_1 w_1_1) I_1 H.size) (cwV 0 hts (bw_V wB_851 wB_852 wB_853 wB_610 wB_850) rfl rfl rfl (by decide +kernel) ⟨Nat.le_of_ble_eq_true rfl, Nat.le_of_ble_eq_true rfl⟩) (dg_preV sX_0 rfl K ST hP hS hA1 hA) rfl rfl hl.1 rfl (lv_room (Nat.le_of_ble_eq_true rfl)) dX11_beginAct_12 ⟨Nat.le_of_ble_eq_true rfl, Nat.le_of_ble_eq_true rfl⟩) (fun S_2 hw_2 H locs hP hS => ?_)
  obtain ⟨I_2, m_2, w_2_0, w_2_1, w_2_2, w_2_3, -⟩ := hw_2
  have M_2 := dg_sm.tr M_1 m_2 (dk_dq rfl) (dk_dq rfl)
  obtain ⟨y_3, f_y_3, w_2_0⟩ := w_2_0
  have w_2_0 : (y_3).toInt = 0 := w_2_0
  obtain ⟨y_4, f_y_4, w_2_1⟩ := w_2_1
  have w_2_1 : (y_4).toInt = 0 := w_2_1
  obtain ⟨y_5, f_y_5, w_2_2⟩ := w_2_2
  have w_2_2 : (y_5).toInt = 0 := w_2_2
  have b_y_5 : 0 ≤ (y_5).toInt ∧ (y_5).toInt ≤ 1 := dg_I.intb (lo := 0) (hi := 1) I_2 sX_229 (by decide +kernel) f_y_5
  refine W.widen (k := 0) (n := 0) (Nat.le_of_ble_eq_true rfl) (Nat.le_of_ble_eq_true rfl) ?_
  exact dg_vret hx hb hr hlocks hP hS ⟨I_2, M_2, ⟨y_3, f_y_3, (by omega)⟩, ⟨y_4, f_y_4, (by omega)⟩, ⟨y_5, f_y_5, (by omega)⟩, (Z3X.keep (Z3X.keep Z3 m_1 w_1_1 (dk_dq rfl)) m_2 (dg_FG.sm m_2 (dk_dq rfl)) (dk_dq rfl)), (Z4X.keep w_1_0 m_2 (dg_FG.sm m_2 (dk_dq rfl)) (dk_dq rfl) (dk_dq rfl)), (Z6X.keep (Z6X.keep Z6 m_1 w_1_1) m_2 (dg_FG.sm m_2 (dk_dq rfl))), (dg_FG.tr w_1_1 (dg_FG.sm m_2 (dk_dq rfl))), (Eq.symm (F_d_beginAct_p0 w_1_2 w_2_3)), trivial⟩ dX11_beginAct_15
noncomputable def F_d_shiftsCome (o : Nat) (S : dg_S) (a1 : Int32) (a2 : Int32) (a3 : Int32) : Int32 := let d_1 : Nat := zR o S 0 6; let x_2 : Int32 := zI S d_1 0; let x_3 : Int32 := F_g_hasSeam o S d_1; (if x_3 = (0 : Int32) then (0 : Int32) else (if a2 < a1 then (0 : Int32) else (if a3 < a2 then (0 : Int32) else let x_19 : Int32 := zI S 3 0; let x_20 : Int32 := x_19 + a2; (if (999 : Int32) < x_20 then (0 : Int32) else (1 : Int32)))))
theorem F_d_shiftsCome_p0 {o : Nat} {S : dg_S} {a1 : Int32} {a2 : Int32} {a3 : Int32} {d_1 : Nat} {x_3 : Int32} (h0 : d_1 = zR o S 0 6) (h1 : x_3 = F_g_hasSeam o S d_1) (h2 : x_3 = (0 : Int32)) : F_d_shiftsCome o S a1 a2 a3 = (0 : Int32) := by
  replace h0 := Eq.symm h0
  subst h0
  replace h1 := Eq.symm h1
  subst h1
  exact (Eq.trans (if_pos h2) rfl)
theorem F_d_shiftsCome_p1 {o : Nat} {S : dg_S} {a1 : Int32} {a2 : Int32} {a3 : Int32} {d_1 : Nat} {x_3 : Int32} (h0 : d_1 = zR o S 0 6) (h1 : x_3 = F_g_hasSeam o S d_1) (h2 : ¬ (x_3 = (0 : Int32))) (h3 : a2 < a1) : F_d_shiftsCome o S a1 a2 a3 = (0 : Int32) := by
  replace h0 := Eq.symm h0
  subst h0
  replace h1 := Eq.symm h1
  subst h1
  exact (Eq.trans (if_neg h2) (Eq.trans (if_pos h3) rfl))
theorem F_d_shiftsCome_p2 {o : Nat} {S : dg_S} {a1 : Int32} {a2 : Int32} {a3 : Int32} {d_1 : Nat} {x_3 : Int32} (h0 : d_1 = zR o S 0 6) (h1 : x_3 = F_g_hasSeam o S d_1) (h2 : ¬ (x_3 = (0 : Int32))) (h3 : ¬ (a2 < a1)) (h4 : a3 < a2) : F_d_shiftsCome o S a1 a2 a3 = (0 : Int32) := by
  replace h0 := Eq.symm h0
  subst h0
  replace h1 := Eq.symm h1
  subst h1
  exact (Eq.trans (if_neg h2) (Eq.trans (if_neg h3) (Eq.trans (if_pos h4) rfl)))
theorem F_d_shiftsCome_p3 {o : Nat} {S : dg_S} {a1 : Int32} {a2 : Int32} {a3 : Int32} {d_1 : Nat} {x_3 : Int32} {x_19 : Int32} {x_20 : Int32} (h0 : d_1 = zR o S 0 6) (h1 : x_3 = F_g_hasSeam o S d_1) (h2 : ¬ (x_3 = (0 : Int32))) (h3 : ¬ (a2 < a1)) (h4 : ¬ (a3 < a2)) (h5 : x_19 = zI S 3 0) (h6 : x_20 = x_19 + a2) (h7 : (999 : Int32) < x_20) : F_d_shiftsCome o S a1 a2 a3 = (0 : Int32) := by
  replace h0 := Eq.symm h0
  subst h0
  replace h1 := Eq.symm h1
  subst h1
  replace h5 := Eq.symm h5
  subst h5
  replace h6 := Eq.symm h6
  subst h6
  exact (Eq.trans (if_neg h2) (Eq.trans (if_neg h3) (Eq.trans (if_neg h4) (Eq.trans (if_pos h7) rfl))))
theorem F_d_shiftsCome_p4 {o : Nat} {S : dg_S} {a1 : Int32} {a2 : Int32} {a3 : Int32} {d_1 : Nat} {x_3 : Int32} {x_19 : Int32} {x_20 : Int32} (h0 : d_1 = zR o S 0 6) (h1 : x_3 = F_g_hasSeam o S d_1) (h2 : ¬ (x_3 = (0 : Int32))) (h3 : ¬ (a2 < a1)) (h4 : ¬ (a3 < a2)) (h5 : x_19 = zI S 3 0) (h6 : x_20 = x_19 + a2) (h7 : ¬ ((999 : Int32) < x_20)) : F_d_shiftsCome o S a1 a2 a3 = (1 : Int32) := by
  replace h0 := Eq.symm h0
  subst h0
  replace h1 := Eq.symm h1
  subst h1
  replace h5 := Eq.symm h5
  subst h5
  replace h6 := Eq.symm h6
  subst h6
  exact (Eq.trans (if_neg h2) (Eq.trans (if_neg h3) (Eq.trans (if_neg h4) (Eq.trans (if_neg h7) rfl))))
set_option maxHeartbeats 8000000 in
set_option maxRecDepth 100000 in
theorem c_d_shiftsCome (l : Launch) (g : Nat → ClassId) (D : va_G) (o : Nat) (S : dg_S) (a1 : Int32) (a2 : Int32) (a3 : Int32) (Z1 : Z1X S) (Z2 : Z2X S) (Z3 : Z3X o S) (Z4 : Z4X S) (Z6 : Z6X S) (I : CX o S) (sz : Nat) : Met l yX11_shiftsCome (bw yX11_shiftsCome cX11_shiftsCome 4 (some .boolean)) ({ frames := 2, cells := 0, slots := 0, locals := 52 } : Room) (dk_Pc g D (dg_w g shX o rfX S) sz [.ref (o + 0), .int a1, .int a2, .int a3]) (va_Qi (fun (r : Int32) S' => S' = S ∧ (0 ≤ (r).toInt ∧ (r).toInt ≤ 1) ∧ (r = F_d_shiftsCome o S a1 a2 a3) ∧ True) (dg_B g D shX o rfX) (dg_A o shX.length sz)) 0 0 (dg_A o shX.length sz) := by
  refine dg_met (cc := cX11_shiftsCome) (maxL := 4) (ret := (some .boolean)) (dk_dq rfl) rfl (Nat.le_of_ble_eq_true rfl) ?_
  intro p e s m args below meth c A hAe harg hx hb hr hml hts hown hlocks hin hP K hS hA1 hA ST hsz ls hl
  rw [← hAe]
  have F : CallFix p m c cX11_shiftsCome 4 s args (bw yX11_shiftsCome cX11_shiftsCome 4 (some .boolean)) RX11 := ⟨hx, hb, hml, hown, hts⟩
  have hl : lv_has ls 4 [(0, .ref (o + 0)), (1, .int a1), (2, .int a2), (3, .int a3)] := hl
  have M_0 : dg_sm shX [] [] S S := dg_sm.rf
  refine lv_aload_n hx hb dX11_shiftsCome_0 rfl (lv_at hl 0 rfl) ?_
  obtain ⟨d_1, hk_d_1, f_d_1⟩ := dg_I.one (i := 0) (k := 6) (d := 0) I sX_0 (by decide +kernel)
  have hk_d_1 : rX d_1 := hk_d_1
  refine dg_get (C := RX11) (T := TX11) (N := 13) hx hb hts (fun w h => bw_mem (wU_X11 w h)) hown K hP sX_0 rfl 6 (dk_dq rfl) (hts _ (bw_mem wB_286)) (fun _ h9 => h9) (v := .ref (o + d_1)) f_d_1 dX11_shiftsCome_1 ?_
  obtain ⟨x_2, f_x_2, b_x_2⟩ := dg_I.int (i := d_1) (k := 0) (lo := 0) (hi := 7) I (rX_0 d_1 hk_d_1) (by decide +kernel)
  refine dg_calli hS hA1 hA (va_runV (As := []) (rest := []) F (c_g_hasSeam l g D o S d_1 hk_d_1 x_2 f_x_2 (by omega) I s.heap.size) (cwV 0 hts (bw_V wB_854 wB_527 wB_528 wB_9 wB_525) rfl rfl rfl (by decide +kernel) ⟨Nat.le_of_ble_eq_true rfl, Nat.le_of_ble_eq_true rfl⟩) (dg_preV (rX_0 d_1 hk_d_1) rfl K ST hP hS hA1 hA) rfl rfl hl.1 rfl (lv_room (Nat.le_of_ble_eq_true rfl)) dX11_shiftsCome_4 ⟨Nat.le_of_ble_eq_true rfl, Nat.le_of_ble_eq_true rfl⟩) (fun x_3 S_4 hw_4 H locs hP hS => ?_)
  rw [hw_4.1] at hP
  obtain ⟨hq_4, w_4_0, w_4_1, w_4_2, -⟩ := hw_4
  have w_4_0 : 0 ≤ (x_3).toInt ∧ (x_3).toInt ≤ 1 := w_4_0
  have w_4_1 : (x_3).toInt = 1 ↔ 0 < (x_2).toInt := w_4_1
  refine lv_if_eq (tgt := 39) hx hb dX11_shiftsCome_7 (dk_dq rfl) (fun c_5 => ?_) (fun c_5 => ?_)
  · have jc_5 := dk_eqc (k := 0) (by decide +kernel) c_5
    refine lv_iconst (v := 0) hx hb dX11_shiftsCome_39 (by decide +kernel) ?_
    have hz_6 : (0 : Int32).toInt = 0 := by decide +kernel
    refine W.widen (k := 0) (n := 0) (Nat.le_of_ble_eq_true rfl) (Nat.le_of_ble_eq_true rfl) ?_
    exact dg_iret hx hb hr hlocks (by decide +kernel) hP hS ⟨rfl, (by decide +kernel), (Eq.symm (F_d_shiftsCome_p0 (zR_eq f_d_1) w_4_2 c_5)), trivial⟩ dX11_shiftsCome_40
  · as_aux_lemma =>
      have jc_5 := dk_neqc (k := 0) (by decide +kernel) c_5
      refine lv_iload_n hx hb dX11_shiftsCome_10 rfl (lv_at hl 2 rfl) ?_
      refine lv_iload_n hx hb dX11_shiftsCome_11 rfl (lv_at hl 1 rfl) ?_
      refine lv_icmp_lt (tgt := 39) hx hb dX11_shiftsCome_12 (dk_dq rfl) (fun c_7 => ?_) (fun c_7 => ?_)
      · have hf_7 := dk_full a2
        have hf_8 := dk_full a1
        have jc_7 := dk_ltc (k := (a1).toInt) rfl c_7
        refine lv_iconst (v := 0) hx hb dX11_shiftsCome_39 (by decide +kernel) ?_
        have hz_10 : (0 : Int32).toInt = 0 := by decide +kernel
        refine W.widen (k := 0) (n := 0) (Nat.le_of_ble_eq_true rfl) (Nat.le_of_ble_eq_true rfl) ?_
        exact dg_iret hx hb hr hlocks (by decide +kernel) hP hS ⟨rfl, (by decide +kernel), (Eq.symm (F_d_shiftsCome_p1 (zR_eq f_d_1) w_4_2 c_5 c_7)), trivial⟩ dX11_shiftsCome_40
      · as_aux_lemma =>
          have hf_10 := dk_full a2
          have hf_11 := dk_full a1
          have jc_7 := dk_nltc (k := (a1).toInt) rfl c_7
          refine lv_iload_n hx hb dX11_shiftsCome_15 rfl (lv_at hl 2 rfl) ?_
          refine lv_iload_n hx hb dX11_shiftsCome_16 rfl (lv_at hl 3 rfl) ?_
          refine lv_icmp_gt (tgt := 39) hx hb dX11_shiftsCome_17 (dk_dq rfl) (fun c_13 => ?_) (fun c_13 => ?_)
          · have hf_13 := dk_full a2
            have hf_14 := dk_full a3
            have jc_13 := dk_gtc (k := (a3).toInt) rfl c_13
            refine lv_iconst (v := 0) hx hb dX11_shiftsCome_39 (by decide +kernel) ?_
            have hz_16 : (0 : Int32).toInt = 0 := by decide +kernel
            refine W.widen (k := 0) (n := 0) (Nat.le_of_ble_eq_true rfl) (Nat.le_of_ble_eq_true rfl) ?_
            exact dg_iret hx hb hr hlocks (by decide +kernel) hP hS ⟨rfl, (by decide +kernel), (Eq.symm (F_d_shiftsCome_p2 (zR_eq f_d_1) w_4_2 c_5 c_7 c_13)), trivial⟩ dX11_shiftsCome_40
          · as_aux_lemma =>
              have hf_16 := dk_full a2
              have hf_17 := dk_full a3
              have jc_13 := dk_ngtc (k := (a3).toInt) rfl c_13
              refine lv_aload_n hx hb dX11_shiftsCome_20 rfl (lv_at hl 0 rfl) ?_
              refine dg_get (C := RX11) (T := TX11) (N := 13) hx hb hts (fun w h => bw_mem (wU_X11 w h)) hown K hP sX_0 rfl 1 (dk_dq rfl) (hts _ (bw_mem wB_287)) (fun _ h9 => h9) (v := .ref (o + 3)) (show S.1 0 1 = .ref (o + 3) from dg_I.rel (d := 3) I sX_0 (by decide +kernel)) dX11_shiftsCome_21 ?_
              obtain ⟨x_19, f_x_19, b_x_19⟩ := dg_I.int (i := 3) (k := 0) (lo := 0) (hi := 65535) I (pX_0 3 (dk_dq rfl)) (by decide +kernel)
              refine dg_get (C := RX5) (T := TX5) (N := 8) hx hb hts (fun w h => bw_mem (wU_X5 w h)) hown K hP (pX_0 3 (dk_dq rfl)) rfl 0 (dk_dq rfl) (hts _ (bw_mem wB_855)) (fun _ h9 => h9) (v := .int x_19) f_x_19 dX11_shiftsCome_24 ?_
              refine lv_iload_n hx hb dX11_shiftsCome_27 rfl (lv_at hl 2 rfl) ?_
              refine lv_iadd hx hb dX11_shiftsCome_28 ?_
              refine lv_topi (fun x_20 ex_20 => ?_)
              refine lv_sipush (v := 999) hx hb dX11_shiftsCome_29 (by decide +kernel) ?_
              refine lv_icmp_gt (tgt := 39) hx hb dX11_shiftsCome_32 (dk_dq rfl) (fun c_21 => ?_) (fun c_21 => ?_)
              · have jc_21 := dk_gtc (k := 999) (by decide +kernel) c_21
                refine lv_iconst (v := 0) hx hb dX11_shiftsCome_39 (by decide +kernel) ?_
                have hz_22 : (0 : Int32).toInt = 0 := by decide +kernel
                refine W.widen (k := 0) (n := 0) (Nat.le_of_ble_eq_true rfl) (Nat.le_of_ble_eq_true rfl) ?_
                exact dg_iret hx hb hr hlocks (by decide +kernel) hP hS ⟨rfl, (by decide +kernel), (Eq.symm (F_d_shiftsCome_p3 (zR_eq f_d_1) w_4_2 c_5 c_7 c_13 (zI_eq f_x_19) ex_20 c_21)), trivial⟩ dX11_shiftsCome_40
              · have jc_21 := dk_ngtc (k := 999) (by decide +kernel) c_21
                refine lv_iconst (v := 1) hx hb dX11_shiftsCome_35 (by decide +kernel) ?_
                refine lv_goto (tgt := 40) hx hb dX11_shiftsCome_36 (dk_dq rfl) ?_
                have hz_23 : (1 : Int32).toInt = 1 := by decide +kernel
                refine W.widen (k := 0) (n := 0) (Nat.le_of_ble_eq_true rfl) (Nat.le_of_ble_eq_true rfl) ?_
                exact dg_iret hx hb hr hlocks (by decide +kernel) hP hS ⟨rfl, (by decide +kernel), (Eq.symm (F_d_shiftsCome_p4 (zR_eq f_d_1) w_4_2 c_5 c_7 c_13 (zI_eq f_x_19) ex_20 c_21)), trivial⟩ dX11_shiftsCome_40
noncomputable def F_d_lookAhead (o : Nat) (S : dg_S) (a1 : Int32) : dg_S := let S_1 : dg_S := F_p_copy o S 10 3; let d_2 : Nat := zR o S 0 6; let x_3 : Int32 := zI S d_2 3; let S_4 : dg_S := F_w_enter o S_1 d_2 10 x_3; let S_5 : dg_S := F_w_pass o S_4 a1; (S_5)
theorem F_d_lookAhead_p0 {o : Nat} {S : dg_S} {a1 : Int32} {S_5 : dg_S} {S_1 : dg_S} {d_2 : Nat} {x_3 : Int32} {S_4 : dg_S} (h0 : S_1 = F_p_copy o S 10 3) (h1 : d_2 = zR o S 0 6) (h2 : x_3 = zI S d_2 3) (h3 : S_4 = F_w_enter o S_1 d_2 10 x_3) (h4 : S_5 = F_w_pass o S_4 a1) : F_d_lookAhead o S a1 = S_5 := by
  replace h0 := Eq.symm h0
  subst h0
  replace h1 := Eq.symm h1
  subst h1
  replace h2 := Eq.symm h2
  subst h2
  replace h3 := Eq.symm h3
  subst h3
  replace h4 := Eq.symm h4
  subst h4
  exact rfl
set_option maxHeartbeats 8000000 in
set_option maxRecDepth 100000 in
theorem c_d_lookAhead (l : Launch) (g : Nat → ClassId) (D : va_G) (o : Nat) (S : dg_S) (a1 : Int32) (Z1 : Z1X S) (Z2 : Z2X S) (Z3 : Z3X o S) (Z4 : Z4X S) (Z6 : Z6X S) (I : CX o S) (sz : Nat) : Met l yX11_lookAhead (bw yX11_lookAhead cX11_lookAhead 2 none) ({ frames := 6, cells := 0, slots := 0, locals := 149 } : Room) (dk_Pc g D (dg_w g shX o rfX S) sz [.ref (o + 0), .int a1]) (va_Qv (fun S' => CX o S' ∧ dg_sm shX [(3, 0), (3, 1), (36, 4), (36, 6), (36, 7), (36, 8), (36, 9), (36, 10), (36, 11), (36, 12), (37, 0), (37, 1), (37, 2), (37, 3), (37, 4), (37, 5), (37, 7)] [4, 5, 6, 7, 8, 9, 38, 39, 40, 41, 42] S S' ∧ Z2X S' ∧ Z3X o S' ∧ Z4X S' ∧ Z6X S' ∧ dg_FG S S' ∧ (S' = F_d_lookAhead o S a1) ∧ True) (dg_B g D shX o rfX) (dg_A o shX.length sz)) 0 0 (dg_A o shX.length sz) := by
  refine dg_met (cc := cX11_lookAhead) (maxL := 2) (ret := none) (dk_dq rfl) rfl (Nat.le_of_ble_eq_true rfl) ?_
  intro p e s m args below meth c A hAe harg hx hb hr hml hts hown hlocks hin hP K hS hA1 hA ST hsz ls hl
  rw [← hAe]
  have F : CallFix p m c cX11_lookAhead 2 s args (bw yX11_lookAhead cX11_lookAhead 2 none) RX11 := ⟨hx, hb, hml, hown, hts⟩
  have hl : lv_has ls 2 [(0, .ref (o + 0)), (1, .int a1)] := hl
  have M_0 : dg_sm shX [(3, 0), (3, 1), (36, 4), (36, 6), (36, 7), (36, 8), (36, 9), (36, 10), (36, 11), (36, 12), (37, 0), (37, 1), (37, 2), (37, 3), (37, 4), (37, 5), (37, 7)] [4, 5, 6, 7, 8, 9, 38, 39, 40, 41, 42] S S := dg_sm.rf
  refine lv_aload_n hx hb dX11_lookAhead_0 rfl (lv_at hl 0 rfl) ?_
  refine dg_get (C := RX11) (T := TX11) (N := 13) hx hb hts (fun w h => bw_mem (wU_X11 w h)) hown K hP sX_0 rfl 2 (dk_dq rfl) (hts _ (bw_mem wB_856)) (fun _ h9 => h9) (v := .ref (o + 10)) (show S.1 0 2 = .ref (o + 10) from dg_I.rel (d := 10) I sX_0 (by decide +kernel)) dX11_lookAhead_1 ?_
  refine lv_aload_n hx hb dX11_lookAhead_4 rfl (lv_at hl 0 rfl) ?_
  refine dg_get (C := RX11) (T := TX11) (N := 13) hx hb hts (fun w h => bw_mem (wU_X11 w h)) hown K hP sX_0 rfl 1 (dk_dq rfl) (hts _ (bw_mem wB_287)) (fun _ h9 => h9) (v := .ref (o + 3)) (show S.1 0 1 = .ref (o + 3) from dg_I.rel (d := 3) I sX_0 (by decide +kernel)) dX11_lookAhead_5 ?_
  refine dg_callv hS hA1 hA (va_runV (As := [.ref (o + 3)]) (rest := []) F (c_p_copy l g D o S 10 (by unfold pX; decide : pX 10) 3 (by unfold pX; decide : pX 3) Z6 I s.heap.size) (cwV 1 hts (bw_V wB_857 wB_662 wB_663 wB_493 wB_660) rfl rfl rfl (by decide +kernel) ⟨Nat.le_of_ble_eq_true rfl, Nat.le_of_ble_eq_true rfl⟩) (dg_preV (pX_0 10 (dk_dq rfl)) rfl K ST hP hS hA1 hA) rfl rfl hl.1 rfl (lv_room (Nat.le_of_ble_eq_true rfl)) dX11_lookAhead_8 ⟨Nat.le_of_ble_eq_true rfl, Nat.le_of_ble_eq_true rfl⟩) (fun S_1 hw_1 H locs hP hS => ?_)
  obtain ⟨I_1, m_1, w_1_0, w_1_1, w_1_2, -⟩ := hw_1
  have M_1 := dg_sm.tr M_0 m_1 (dk_dq rfl) (dk_dq rfl)
  refine lv_aload_n hx hb dX11_lookAhead_11 rfl (lv_at hl 0 rfl) ?_
  refine dg_get (C := RX11) (T := TX11) (N := 13) hx hb hts (fun w h => bw_mem (wU_X11 w h)) hown K hP sX_0 rfl 9 (dk_dq rfl) (hts _ (bw_mem wB_858)) (fun _ h9 => h9) (v := .ref (o + 214)) (show S_1.1 0 9 = .ref (o + 214) from dg_I.rel (d := 214) I_1 sX_0 (by decide +kernel)) dX11_lookAhead_12 ?_
  refine lv_aload_n hx hb dX11_lookAhead_15 rfl (lv_at hl 0 rfl) ?_
  obtain ⟨d_2, hk_d_2, f_d_2⟩ := dg_I.one (i := 0) (k := 6) (d := 0) I sX_0 (by decide +kernel)
  have hk_d_2 : rX d_2 := hk_d_2
  refine dg_get (C := RX11) (T := TX11) (N := 13) hx hb hts (fun w h => bw_mem (wU_X11 w h)) hown K hP sX_0 rfl 6 (dk_dq rfl) (hts _ (bw_mem wB_286)) (fun _ h9 => h9) (v := .ref (o + d_2)) ((m_1.1 0 6 _ sX_0 (dk_dq rfl)).trans f_d_2) dX11_lookAhead_16 ?_
  refine lv_aload_n hx hb dX11_lookAhead_19 rfl (lv_at hl 0 rfl) ?_
  refine dg_get (C := RX11) (T := TX11) (N := 13) hx hb hts (fun w h => bw_mem (wU_X11 w h)) hown K hP sX_0 rfl 2 (dk_dq rfl) (hts _ (bw_mem wB_856)) (fun _ h9 => h9) (v := .ref (o + 10)) (show S_1.1 0 2 = .ref (o + 10) from dg_I.rel (d := 10) I_1 sX_0 (by decide +kernel)) dX11_lookAhead_20 ?_
  refine lv_aload_n hx hb dX11_lookAhead_23 rfl (lv_at hl 0 rfl) ?_
  refine dg_get (C := RX11) (T := TX11) (N := 13) hx hb hts (fun w h => bw_mem (wU_X11 w h)) hown K hP sX_0 rfl 6 (dk_dq rfl) (hts _ (bw_mem wB_286)) (fun _ h9 => h9) (v := .ref (o + d_2)) ((m_1.1 0 6 _ sX_0 (dk_dq rfl)).trans f_d_2) dX11_lookAhead_24 ?_
  obtain ⟨x_3, f_x_3, b_x_3⟩ := dg_I.int (i := d_2) (k := 3) (lo := (-2147483648)) (hi := 2147483647) I (rX_0 d_2 hk_d_2) (by decide +kernel)
  refine dg_get (C := RX2) (T := TX2) (N := 19) hx hb hts (fun w h => bw_mem (wU_X2 w h)) hown K hP (rX_0 d_2 hk_d_2) rfl 3 (dk_dq rfl) (hts _ (bw_mem wB_859)) (fun _ h9 => h9) (v := .int x_3) ((m_1.1 d_2 3 _ (rX_0 d_2 hk_d_2) (dk_dq rfl)).trans f_x_3) dX11_lookAhead_27 ?_
  refine dg_callv hS hA1 hA (va_runV (As := [.ref (o + d_2), .ref (o + 10), .int x_3]) (rest := []) F (c_w_enter l g D o S_1 d_2 hk_d_2 10 (by unfold pX; decide : pX 10) x_3 w_1_0 I_1 H.size) (cwV 3 hts (bw_V wB_860 wB_676 wB_677 wB_594 wB_674) rfl rfl rfl (by decide +kernel) ⟨Nat.le_of_ble_eq_true rfl, Nat.le_of_ble_eq_true rfl⟩) (dg_preV sX_214 rfl K ST hP hS hA1 hA) rfl rfl hl.1 rfl (lv_room (Nat.le_of_ble_eq_true rfl)) dX11_lookAhead_30 ⟨Nat.le_of_ble_eq_true rfl, Nat.le_of_ble_eq_true rfl⟩) (fun S_4 hw_4 H locs hP hS => ?_)
  obtain ⟨I_4, m_4, w_4_0, w_4_1, -⟩ := hw_4
  have M_4 := dg_sm.tr M_1 m_4 (dk_dq rfl) (dk_dq rfl)
  refine lv_aload_n hx hb dX11_lookAhead_33 rfl (lv_at hl 0 rfl) ?_
  refine dg_get (C := RX11) (T := TX11) (N := 13) hx hb hts (fun w h => bw_mem (wU_X11 w h)) hown K hP sX_0 rfl 9 (dk_dq rfl) (hts _ (bw_mem wB_858)) (fun _ h9 => h9) (v := .ref (o + 214)) (show S_4.1 0 9 = .ref (o + 214) from dg_I.rel (d := 214) I_4 sX_0 (by decide +kernel)) dX11_lookAhead_34 ?_
  refine lv_iload_n hx hb dX11_lookAhead_37 rfl (lv_at hl 1 rfl) ?_
  refine dg_callv hS hA1 hA (va_runV (As := [.int a1]) (rest := []) F (c_w_pass l g D o S_4 a1 (Z2X.keep (Z2X.keep Z2 m_1 (dk_dq rfl) (dk_dq rfl)) m_4 (dk_dq rfl) (dk_dq rfl)) w_4_0 I_4 H.size) (cwV 1 hts (bw_V wB_861 wB_680 wB_681 wB_594 wB_678) rfl rfl rfl (by decide +kernel) ⟨Nat.le_of_ble_eq_true rfl, Nat.le_of_ble_eq_true rfl⟩) (dg_preV sX_214 rfl K ST hP hS hA1 hA) rfl rfl hl.1 rfl (lv_room (Nat.le_of_ble_eq_true rfl)) dX11_lookAhead_38 ⟨Nat.le_of_ble_eq_true rfl, Nat.le_of_ble_eq_true rfl⟩) (fun S_5 hw_5 H locs hP hS => ?_)
  obtain ⟨I_5, m_5, w_5_0, w_5_1, w_5_2, w_5_3, -⟩ := hw_5
  have M_5 := dg_sm.tr M_4 m_5 (dk_dq rfl) (dk_dq rfl)
  refine W.widen (k := 0) (n := 0) (Nat.le_of_ble_eq_true rfl) (Nat.le_of_ble_eq_true rfl) ?_
  exact dg_vret hx hb hr hlocks hP hS ⟨I_5, M_5, w_5_0, w_5_1, (Z4X.keep (Z4X.keep (Z4X.keep Z4 m_1 w_1_1 (dk_dq rfl) (dk_dq rfl)) m_4 (dg_FG.sm m_4 (dk_dq rfl)) (dk_dq rfl) (dk_dq rfl)) m_5 w_5_2 (dk_dq rfl) (dk_dq rfl)), (Z6X.keep (Z6X.keep (Z6X.keep Z6 m_1 w_1_1) m_4 (dg_FG.sm m_4 (dk_dq rfl))) m_5 w_5_2), (dg_FG.tr (dg_FG.tr w_1_1 (dg_FG.sm m_4 (dk_dq rfl))) w_5_2), (Eq.symm (F_d_lookAhead_p0 w_1_2 (zR_eq f_d_2) (zI_eq f_x_3) w_4_1 w_5_3)), trivial⟩ dX11_lookAhead_41
noncomputable def F_d_passAndKeep (o : Nat) (S : dg_S) : dg_S × Int32 := let x_1 : Int32 := zI S 3 0; let S_2 : dg_S := F_w_pass o S (1 : Int32); let x_3 : Int32 := zI S_2 214 10; (if x_3 = (-1 : Int32) then (S_2, (0 : Int32)) else let x_5 : Int32 := zI S_2 214 11; let x_6 : Int32 := x_5 - (8 : Int32); let x_7 : Int32 := zI S_2 214 12; let S_8 : dg_S := F_h_keep o S_2 x_1 x_3 x_6 x_7; (if x_7 = (-1 : Int32) then (S_8, (0 : Int32)) else (S_8, (1 : Int32))))
theorem F_d_passAndKeep_p0 {o : Nat} {S : dg_S} {S_8 : dg_S} {x_1 : Int32} {S_2 : dg_S} {x_3 : Int32} {x_5 : Int32} {x_6 : Int32} {x_7 : Int32} (h0 : x_1 = zI S 3 0) (h1 : S_2 = F_w_pass o S (1 : Int32)) (h2 : x_3 = zI S_2 214 10) (h3 : ¬ (x_3 = (-1 : Int32))) (h4 : x_5 = zI S_2 214 11) (h5 : x_6 = x_5 - (8 : Int32)) (h6 : x_7 = zI S_2 214 12) (h7 : S_8 = F_h_keep o S_2 x_1 x_3 x_6 x_7) (h8 : ¬ (x_7 = (-1 : Int32))) : F_d_passAndKeep o S = (S_8, (1 : Int32)) := by
  replace h0 := Eq.symm h0
  subst h0
  replace h1 := Eq.symm h1
  subst h1
  replace h2 := Eq.symm h2
  subst h2
  replace h4 := Eq.symm h4
  subst h4
  replace h5 := Eq.symm h5
  subst h5
  replace h6 := Eq.symm h6
  subst h6
  replace h7 := Eq.symm h7
  subst h7
  exact (Eq.trans (if_neg h3) (Eq.trans (if_neg h8) rfl))
theorem F_d_passAndKeep_p1 {o : Nat} {S : dg_S} {S_8 : dg_S} {x_1 : Int32} {S_2 : dg_S} {x_3 : Int32} {x_5 : Int32} {x_6 : Int32} {x_7 : Int32} (h0 : x_1 = zI S 3 0) (h1 : S_2 = F_w_pass o S (1 : Int32)) (h2 : x_3 = zI S_2 214 10) (h3 : ¬ (x_3 = (-1 : Int32))) (h4 : x_5 = zI S_2 214 11) (h5 : x_6 = x_5 - (8 : Int32)) (h6 : x_7 = zI S_2 214 12) (h7 : S_8 = F_h_keep o S_2 x_1 x_3 x_6 x_7) (h8 : x_7 = (-1 : Int32)) : F_d_passAndKeep o S = (S_8, (0 : Int32)) := by
  replace h0 := Eq.symm h0
  subst h0
  replace h1 := Eq.symm h1
  subst h1
  replace h2 := Eq.symm h2
  subst h2
  replace h4 := Eq.symm h4
  subst h4
  replace h5 := Eq.symm h5
  subst h5
  replace h6 := Eq.symm h6
  subst h6
  replace h7 := Eq.symm h7
  subst h7
  exact (Eq.trans (if_neg h3) (Eq.trans (if_pos h8) rfl))
theorem F_d_passAndKeep_p2 {o : Nat} {S : dg_S} {S_2 : dg_S} {x_3 : Int32} (h0 : S_2 = F_w_pass o S (1 : Int32)) (h1 : x_3 = zI S_2 214 10) (h2 : x_3 = (-1 : Int32)) : F_d_passAndKeep o S = (S_2, (0 : Int32)) := by
  replace h0 := Eq.symm h0
  subst h0
  replace h1 := Eq.symm h1
  subst h1
  exact (Eq.trans (if_pos h2) rfl)
set_option maxHeartbeats 8000000 in
set_option maxRecDepth 100000 in
theorem c_d_passAndKeep (l : Launch) (g : Nat → ClassId) (D : va_G) (o : Nat) (S : dg_S) (Z1 : Z1X S) (Z2 : Z2X S) (Z3 : Z3X o S) (Z4 : Z4X S) (Z6 : Z6X S) (I : CX o S) (sz : Nat) : Met l yX11_passAndKeep (bw yX11_passAndKeep cX11_passAndKeep 2 (some .int)) ({ frames := 6, cells := 0, slots := 0, locals := 149 } : Room) (dk_Pc g D (dg_w g shX o rfX S) sz [.ref (o + 0)]) (va_Qi (fun (r : Int32) S' => CX o S' ∧ dg_sm shX [(3, 0), (10, 1), (36, 4), (36, 9), (36, 10), (36, 11), (36, 12), (37, 0), (37, 1), (37, 2), (37, 3), (37, 4), (37, 5), (37, 7)] [4, 5, 9, 11, 38, 39, 40, 41, 42] S S' ∧ (0 ≤ (r).toInt ∧ (r).toInt ≤ 1) ∧ Z2X S' ∧ Z3X o S' ∧ Z4X S' ∧ Z6X S' ∧ dg_FG S S' ∧ (S' = (F_d_passAndKeep o S).1 ∧ r = (F_d_passAndKeep o S).2) ∧ True) (dg_B g D shX o rfX) (dg_A o shX.length sz)) 0 0 (dg_A o shX.length sz) := by
  refine dg_met (cc := cX11_passAndKeep) (maxL := 2) (ret := (some .int)) (dk_dq rfl) rfl (Nat.le_of_ble_eq_true rfl) ?_
  intro p e s m args below meth c A hAe harg hx hb hr hml hts hown hlocks hin hP K hS hA1 hA ST hsz ls hl
  rw [← hAe]
  have F : CallFix p m c cX11_passAndKeep 2 s args (bw yX11_passAndKeep cX11_passAndKeep 2 (some .int)) RX11 := ⟨hx, hb, hml, hown, hts⟩
  have hl : lv_has ls 2 [(0, .ref (o + 0))] := hl
  have M_0 : dg_sm shX [(3, 0), (10, 1), (36, 4), (36, 9), (36, 10), (36, 11), (36, 12), (37, 0), (37, 1), (37, 2), (37, 3), (37, 4), (37, 5), (37, 7)] [4, 5, 9, 11, 38, 39, 40, 41, 42] S S := dg_sm.rf
  refine lv_aload_n hx hb dX11_passAndKeep_0 rfl (lv_at hl 0 rfl) ?_
  refine dg_get (C := RX11) (T := TX11) (N := 13) hx hb hts (fun w h => bw_mem (wU_X11 w h)) hown K hP sX_0 rfl 1 (dk_dq rfl) (hts _ (bw_mem wB_287)) (fun _ h9 => h9) (v := .ref (o + 3)) (show S.1 0 1 = .ref (o + 3) from dg_I.rel (d := 3) I sX_0 (by decide +kernel)) dX11_passAndKeep_1 ?_
  obtain ⟨x_1, f_x_1, b_x_1⟩ := dg_I.int (i := 3) (k := 0) (lo := 0) (hi := 65535) I (pX_0 3 (dk_dq rfl)) (by decide +kernel)
  refine dg_get (C := RX5) (T := TX5) (N := 8) hx hb hts (fun w h => bw_mem (wU_X5 w h)) hown K hP (pX_0 3 (dk_dq rfl)) rfl 0 (dk_dq rfl) (hts _ (bw_mem wB_855)) (fun _ h9 => h9) (v := .int x_1) f_x_1 dX11_passAndKeep_4 ?_
  refine lv_istore_n (lv' := [(1, .int x_1), (0, .ref (o + 0))]) hx hb dX11_passAndKeep_7 rfl hl (dk_dq rfl) rfl (fun ls hl => ?_)
  refine lv_aload_n hx hb dX11_passAndKeep_8 rfl (lv_at hl 1 rfl) ?_
  refine dg_get (C := RX11) (T := TX11) (N := 13) hx hb hts (fun w h => bw_mem (wU_X11 w h)) hown K hP sX_0 rfl 9 (dk_dq rfl) (hts _ (bw_mem wB_858)) (fun _ h9 => h9) (v := .ref (o + 214)) (show S.1 0 9 = .ref (o + 214) from dg_I.rel (d := 214) I sX_0 (by decide +kernel)) dX11_passAndKeep_9 ?_
  refine lv_iconst (v := 1) hx hb dX11_passAndKeep_12 (by decide +kernel) ?_
  refine dg_callv hS hA1 hA (va_runV (As := [.int 1]) (rest := []) F (c_w_pass l g D o S 1 Z2 Z3 I s.heap.size) (cwV 1 hts (bw_V wB_861 wB_680 wB_681 wB_594 wB_678) rfl rfl rfl (by decide +kernel) ⟨Nat.le_of_ble_eq_true rfl, Nat.le_of_ble_eq_true rfl⟩) (dg_preV sX_214 rfl K ST hP hS hA1 hA) rfl rfl hl.1 rfl (lv_room (Nat.le_of_ble_eq_true rfl)) dX11_passAndKeep_13 ⟨Nat.le_of_ble_eq_true rfl, Nat.le_of_ble_eq_true rfl⟩) (fun S_2 hw_2 H locs hP hS => ?_)
  obtain ⟨I_2, m_2, w_2_0, w_2_1, w_2_2, w_2_3, -⟩ := hw_2
  have M_2 := dg_sm.tr M_0 m_2 (dk_dq rfl) (dk_dq rfl)
  refine lv_aload_n hx hb dX11_passAndKeep_16 rfl (lv_at hl 1 rfl) ?_
  refine dg_get (C := RX11) (T := TX11) (N := 13) hx hb hts (fun w h => bw_mem (wU_X11 w h)) hown K hP sX_0 rfl 9 (dk_dq rfl) (hts _ (bw_mem wB_858)) (fun _ h9 => h9) (v := .ref (o + 214)) (show S_2.1 0 9 = .ref (o + 214) from dg_I.rel (d := 214) I_2 sX_0 (by decide +kernel)) dX11_passAndKeep_17 ?_
  obtain ⟨x_3, f_x_3, b_x_3⟩ := dg_I.int (i := 214) (k := 10) (lo := (-2147483648)) (hi := 2147483647) I_2 sX_214 (by decide +kernel)
  refine dg_get (C := RX10) (T := TX10) (N := 13) hx hb hts (fun w h => bw_mem (wU_X10 w h)) hown K hP sX_214 rfl 10 (dk_dq rfl) (hts _ (bw_mem wB_862)) (fun _ h9 => h9) (v := .int x_3) f_x_3 dX11_passAndKeep_20 ?_
  refine lv_iconst (v := (-1)) hx hb dX11_passAndKeep_23 (by decide +kernel) ?_
  refine lv_icmp_ne (tgt := 29) hx hb dX11_passAndKeep_24 (dk_dq rfl) (fun c_4 => ?_) (fun c_4 => ?_)
  · as_aux_lemma =>
      have jc_4 := dk_neqc (k := (-1)) (by decide +kernel) c_4
      refine lv_aload_n hx hb dX11_passAndKeep_29 rfl (lv_at hl 1 rfl) ?_
      refine dg_get (C := RX11) (T := TX11) (N := 13) hx hb hts (fun w h => bw_mem (wU_X11 w h)) hown K hP sX_0 rfl 3 (dk_dq rfl) (hts _ (bw_mem wB_844)) (fun _ h9 => h9) (v := .ref (o + 17)) (show S_2.1 0 3 = .ref (o + 17) from dg_I.rel (d := 17) I_2 sX_0 (by decide +kernel)) dX11_passAndKeep_30 ?_
      refine lv_iload_n hx hb dX11_passAndKeep_33 rfl (lv_at hl 0 rfl) ?_
      refine lv_aload_n hx hb dX11_passAndKeep_34 rfl (lv_at hl 1 rfl) ?_
      refine dg_get (C := RX11) (T := TX11) (N := 13) hx hb hts (fun w h => bw_mem (wU_X11 w h)) hown K hP sX_0 rfl 9 (dk_dq rfl) (hts _ (bw_mem wB_858)) (fun _ h9 => h9) (v := .ref (o + 214)) (show S_2.1 0 9 = .ref (o + 214) from dg_I.rel (d := 214) I_2 sX_0 (by decide +kernel)) dX11_passAndKeep_35 ?_
      refine dg_get (C := RX10) (T := TX10) (N := 13) hx hb hts (fun w h => bw_mem (wU_X10 w h)) hown K hP sX_214 rfl 10 (dk_dq rfl) (hts _ (bw_mem wB_862)) (fun _ h9 => h9) (v := .int x_3) f_x_3 dX11_passAndKeep_38 ?_
      refine lv_aload_n hx hb dX11_passAndKeep_41 rfl (lv_at hl 1 rfl) ?_
      refine dg_get (C := RX11) (T := TX11) (N := 13) hx hb hts (fun w h => bw_mem (wU_X11 w h)) hown K hP sX_0 rfl 9 (dk_dq rfl) (hts _ (bw_mem wB_858)) (fun _ h9 => h9) (v := .ref (o + 214)) (show S_2.1 0 9 = .ref (o + 214) from dg_I.rel (d := 214) I_2 sX_0 (by decide +kernel)) dX11_passAndKeep_42 ?_
      obtain ⟨x_5, f_x_5, b_x_5⟩ := dg_I.int (i := 214) (k := 11) (lo := (-2147483648)) (hi := 2147483647) I_2 sX_214 (by decide +kernel)
      refine dg_get (C := RX10) (T := TX10) (N := 13) hx hb hts (fun w h => bw_mem (wU_X10 w h)) hown K hP sX_214 rfl 11 (dk_dq rfl) (hts _ (bw_mem wB_863)) (fun _ h9 => h9) (v := .int x_5) f_x_5 dX11_passAndKeep_45 ?_
      refine lv_bipush (v := 8) hx hb dX11_passAndKeep_48 (by decide +kernel) ?_
      refine lv_isub hx hb dX11_passAndKeep_50 ?_
      refine lv_topi (fun x_6 ex_6 => ?_)
      refine lv_aload_n hx hb dX11_passAndKeep_51 rfl (lv_at hl 1 rfl) ?_
      refine dg_get (C := RX11) (T := TX11) (N := 13) hx hb hts (fun w h => bw_mem (wU_X11 w h)) hown K hP sX_0 rfl 9 (dk_dq rfl) (hts _ (bw_mem wB_858)) (fun _ h9 => h9) (v := .ref (o + 214)) (show S_2.1 0 9 = .ref (o + 214) from dg_I.rel (d := 214) I_2 sX_0 (by decide +kernel)) dX11_passAndKeep_52 ?_
      obtain ⟨x_7, f_x_7, b_x_7⟩ := dg_I.int (i := 214) (k := 12) (lo := (-2147483648)) (hi := 2147483647) I_2 sX_214 (by decide +kernel)
      refine dg_get (C := RX10) (T := TX10) (N := 13) hx hb hts (fun w h => bw_mem (wU_X10 w h)) hown K hP sX_214 rfl 12 (dk_dq rfl) (hts _ (bw_mem wB_864)) (fun _ h9 => h9) (v := .int x_7) f_x_7 dX11_passAndKeep_55 ?_
      refine dg_callv hS hA1 hA (va_runV (As := [.int x_1, .int x_3, .int x_6, .int x_7]) (rest := []) F (c_h_keep l g D o S_2 x_1 x_3 x_6 x_7 I_2 H.size) (cwV 4 hts (bw_V wB_866 wB_867 wB_868 wB_849 wB_865) rfl rfl rfl (by decide +kernel) ⟨Nat.le_of_ble_eq_true rfl, Nat.le_of_ble_eq_true rfl⟩) (dg_preV sX_17 rfl K ST hP hS hA1 hA) rfl rfl hl.1 rfl (lv_room (Nat.le_of_ble_eq_true rfl)) dX11_passAndKeep_58 ⟨Nat.le_of_ble_eq_true rfl, Nat.le_of_ble_eq_true rfl⟩) (fun S_8 hw_8 H locs hP hS => ?_)
      obtain ⟨I_8, m_8, w_8_0, -⟩ := hw_8
      have M_8 := dg_sm.tr M_2 m_8 (dk_dq rfl) (dk_dq rfl)
      refine lv_aload_n hx hb dX11_passAndKeep_61 rfl (lv_at hl 1 rfl) ?_
      refine dg_get (C := RX11) (T := TX11) (N := 13) hx hb hts (fun w h => bw_mem (wU_X11 w h)) hown K hP sX_0 rfl 9 (dk_dq rfl) (hts _ (bw_mem wB_858)) (fun _ h9 => h9) (v := .ref (o + 214)) (show S_8.1 0 9 = .ref (o + 214) from dg_I.rel (d := 214) I_8 sX_0 (by decide +kernel)) dX11_passAndKeep_62 ?_
      refine dg_get (C := RX10) (T := TX10) (N := 13) hx hb hts (fun w h => bw_mem (wU_X10 w h)) hown K hP sX_214 rfl 12 (dk_dq rfl) (hts _ (bw_mem wB_864)) (fun _ h9 => h9) (v := .int x_7) ((m_8.1 214 12 _ sX_214 (dk_dq rfl)).trans f_x_7) dX11_passAndKeep_65 ?_
      refine lv_iconst (v := (-1)) hx hb dX11_passAndKeep_68 (by decide +kernel) ?_
      refine lv_icmp_ne (tgt := 76) hx hb dX11_passAndKeep_69 (dk_dq rfl) (fun c_9 => ?_) (fun c_9 => ?_)
      · have jc_9 := dk_neqc (k := (-1)) (by decide +kernel) c_9
        refine lv_iconst (v := 1) hx hb dX11_passAndKeep_76 (by decide +kernel) ?_
        have hz_10 : (1 : Int32).toInt = 1 := by decide +kernel
        refine W.widen (k := 0) (n := 0) (Nat.le_of_ble_eq_true rfl) (Nat.le_of_ble_eq_true rfl) ?_
        exact dg_iret hx hb hr hlocks rfl hP hS ⟨I_8, M_8, (by decide +kernel), (Z2X.keep w_2_0 m_8 (dk_dq rfl) (dk_dq rfl)), (Z3X.keep w_2_1 m_8 (dg_FG.sm m_8 (dk_dq rfl)) (dk_dq rfl)), (Z4X.keep (Z4X.keep Z4 m_2 w_2_2 (dk_dq rfl) (dk_dq rfl)) m_8 (dg_FG.sm m_8 (dk_dq rfl)) (dk_dq rfl) (dk_dq rfl)), (Z6X.keep (Z6X.keep Z6 m_2 w_2_2) m_8 (dg_FG.sm m_8 (dk_dq rfl))), (dg_FG.tr w_2_2 (dg_FG.sm m_8 (dk_dq rfl))), ⟨congrArg Prod.fst (Eq.symm (F_d_passAndKeep_p0 (zI_eq f_x_1) w_2_3 (zI_eq f_x_3) c_4 (zI_eq f_x_5) ex_6 (zI_eq f_x_7) w_8_0 c_9)), congrArg Prod.snd (Eq.symm (F_d_passAndKeep_p0 (zI_eq f_x_1) w_2_3 (zI_eq f_x_3) c_4 (zI_eq f_x_5) ex_6 (zI_eq f_x_7) w_8_0 c_9))⟩, trivial⟩ dX11_passAndKeep_77
      · have jc_9 := dk_eqc (k := (-1)) (by decide +kernel) c_9
        refine lv_iconst (v := 0) hx hb dX11_passAndKeep_72 (by decide +kernel) ?_
        refine lv_goto (tgt := 77) hx hb dX11_passAndKeep_73 (dk_dq rfl) ?_
        have hz_11 : (0 : Int32).toInt = 0 := by decide +kernel
        refine W.widen (k := 0) (n := 0) (Nat.le_of_ble_eq_true rfl) (Nat.le_of_ble_eq_true rfl) ?_
        exact dg_iret hx hb hr hlocks rfl hP hS ⟨I_8, M_8, (by decide +kernel), (Z2X.keep w_2_0 m_8 (dk_dq rfl) (dk_dq rfl)), (Z3X.keep w_2_1 m_8 (dg_FG.sm m_8 (dk_dq rfl)) (dk_dq rfl)), (Z4X.keep (Z4X.keep Z4 m_2 w_2_2 (dk_dq rfl) (dk_dq rfl)) m_8 (dg_FG.sm m_8 (dk_dq rfl)) (dk_dq rfl) (dk_dq rfl)), (Z6X.keep (Z6X.keep Z6 m_2 w_2_2) m_8 (dg_FG.sm m_8 (dk_dq rfl))), (dg_FG.tr w_2_2 (dg_FG.sm m_8 (dk_dq rfl))), ⟨congrArg Prod.fst (Eq.symm (F_d_passAndKeep_p1 (zI_eq f_x_1) w_2_3 (zI_eq f_x_3) c_4 (zI_eq f_x_5) ex_6 (zI_eq f_x_7) w_8_0 c_9)), congrArg Prod.snd (Eq.symm (F_d_passAndKeep_p1 (zI_eq f_x_1) w_2_3 (zI_eq f_x_3) c_4 (zI_eq f_x_5) ex_6 (zI_eq f_x_7) w_8_0 c_9))⟩, trivial⟩ dX11_passAndKeep_77
  · have jc_4 := dk_eqc (k := (-1)) (by decide +kernel) c_4
    refine lv_iconst (v := 0) hx hb dX11_passAndKeep_27 (by decide +kernel) ?_
    have hz_12 : (0 : Int32).toInt = 0 := by decide +kernel
    refine W.widen (k := 0) (n := 0) (Nat.le_of_ble_eq_true rfl) (Nat.le_of_ble_eq_true rfl) ?_
    exact dg_iret hx hb hr hlocks rfl hP hS ⟨I_2, M_2, (by decide +kernel), w_2_0, w_2_1, (Z4X.keep Z4 m_2 w_2_2 (dk_dq rfl) (dk_dq rfl)), (Z6X.keep Z6 m_2 w_2_2), w_2_2, ⟨congrArg Prod.fst (Eq.symm (F_d_passAndKeep_p2 w_2_3 (zI_eq f_x_3) c_4)), congrArg Prod.snd (Eq.symm (F_d_passAndKeep_p2 w_2_3 (zI_eq f_x_3) c_4))⟩, trivial⟩ dX11_passAndKeep_28
noncomputable def F_d_draw (o : Nat) (S : dg_S) (a1 : Int32) : dg_S × Int32 := let x_1 : Int32 := zI S 0 12; let x_2 : Int64 := Int32.toInt64 x_1; let x_3 : Int64 := (1103515245 : Int64) * x_2; let x_4 : Int64 := x_3 + (12345 : Int64); let x_5 : Int64 := x_4 &&& (2147483647 : Int64); let x_6 : Int32 := Int64.toInt32 x_5; let S_7 : dg_S := dg_uF S 0 12 (.int x_6); (if a1 ≤ (0 : Int32) then (S_7, (0 : Int32)) else let x_9 : Int32 := x_6 / (64 : Int32); let x_10 : Int32 := x_9 - x_9 / a1 * a1; (S_7, x_10))
theorem F_d_draw_p0 {o : Nat} {S : dg_S} {a1 : Int32} {S_7 : dg_S} {x_1 : Int32} {x_2 : Int64} {x_3 : Int64} {x_4 : Int64} {x_5 : Int64} {x_6 : Int32} (h0 : x_1 = zI S 0 12) (h1 : x_2 = Int32.toInt64 x_1) (h2 : x_3 = (1103515245 : Int64) * x_2) (h3 : x_4 = x_3 + (12345 : Int64)) (h4 : x_5 = x_4 &&& (2147483647 : Int64)) (h5 : x_6 = Int64.toInt32 x_5) (h6 : S_7 = dg_uF S 0 12 (.int x_6)) (h7 : a1 ≤ (0 : Int32)) : F_d_draw o S a1 = (S_7, (0 : Int32)) := by
  replace h0 := Eq.symm h0
  subst h0
  replace h1 := Eq.symm h1
  subst h1
  replace h2 := Eq.symm h2
  subst h2
  replace h3 := Eq.symm h3
  subst h3
  replace h4 := Eq.symm h4
  subst h4
  replace h5 := Eq.symm h5
  subst h5
  replace h6 := Eq.symm h6
  subst h6
  exact (Eq.trans (if_pos h7) rfl)
theorem F_d_draw_p1 {o : Nat} {S : dg_S} {a1 : Int32} {S_7 : dg_S} {x_10 : Int32} {x_1 : Int32} {x_2 : Int64} {x_3 : Int64} {x_4 : Int64} {x_5 : Int64} {x_6 : Int32} {x_9 : Int32} (h0 : x_1 = zI S 0 12) (h1 : x_2 = Int32.toInt64 x_1) (h2 : x_3 = (1103515245 : Int64) * x_2) (h3 : x_4 = x_3 + (12345 : Int64)) (h4 : x_5 = x_4 &&& (2147483647 : Int64)) (h5 : x_6 = Int64.toInt32 x_5) (h6 : S_7 = dg_uF S 0 12 (.int x_6)) (h7 : ¬ (a1 ≤ (0 : Int32))) (h8 : x_9 = x_6 / (64 : Int32)) (h9 : x_10 = x_9 - x_9 / a1 * a1) : F_d_draw o S a1 = (S_7, x_10) := by
  replace h0 := Eq.symm h0
  subst h0
  replace h1 := Eq.symm h1
  subst h1
  replace h2 := Eq.symm h2
  subst h2
  replace h3 := Eq.symm h3
  subst h3
  replace h4 := Eq.symm h4
  subst h4
  replace h5 := Eq.symm h5
  subst h5
  replace h6 := Eq.symm h6
  subst h6
  replace h8 := Eq.symm h8
  subst h8
  replace h9 := Eq.symm h9
  subst h9
  exact (Eq.trans (if_neg h7) rfl)
set_option maxHeartbeats 8000000 in
set_option maxRecDepth 100000 in
theorem c_d_draw (l : Launch) (g : Nat → ClassId) (D : va_G) (o : Nat) (S : dg_S) (a1 : Int32) (Z1 : Z1X S) (Z2 : Z2X S) (Z3 : Z3X o S) (Z4 : Z4X S) (Z6 : Z6X S) (I : CX o S) (sz : Nat) : Met l yX11_draw (bw yX11_draw cX11_draw 2 (some .int)) ({ frames := 1, cells := 0, slots := 0, locals := 32 } : Room) (dk_Pc g D (dg_w g shX o rfX S) sz [.ref (o + 0), .int a1]) (va_Qi (fun (r : Int32) S' => CX o S' ∧ dg_sm shX [(0, 12)] [] S S' ∧ (S' = (F_d_draw o S a1).1 ∧ r = (F_d_draw o S a1).2) ∧ True) (dg_B g D shX o rfX) (dg_A o shX.length sz)) 0 0 (dg_A o shX.length sz) := by
  refine dg_met (cc := cX11_draw) (maxL := 2) (ret := (some .int)) (dk_dq rfl) rfl (Nat.le_of_ble_eq_true rfl) ?_
  intro p e s m args below meth c A hAe harg hx hb hr hml hts hown hlocks hin hP K hS hA1 hA ST hsz ls hl
  rw [← hAe]
  have F : CallFix p m c cX11_draw 2 s args (bw yX11_draw cX11_draw 2 (some .int)) RX11 := ⟨hx, hb, hml, hown, hts⟩
  have hl : lv_has ls 2 [(0, .ref (o + 0)), (1, .int a1)] := hl
  have M_0 : dg_sm shX [(0, 12)] [] S S := dg_sm.rf
  refine lv_aload_n hx hb dX11_draw_0 rfl (lv_at hl 0 rfl) ?_
  refine lv_ldc2 hx hb hown (hts _ (bw_mem wB_869)) dX11_draw_1 ?_
  refine lv_aload_n hx hb dX11_draw_4 rfl (lv_at hl 0 rfl) ?_
  obtain ⟨x_1, f_x_1, b_x_1⟩ := dg_I.int (i := 0) (k := 12) (lo := (-2147483648)) (hi := 2147483647) I sX_0 (by decide +kernel)
  refine dg_get (C := RX11) (T := TX11) (N := 13) hx hb hts (fun w h => bw_mem (wU_X11 w h)) hown K hP sX_0 rfl 12 (dk_dq rfl) (hts _ (bw_mem wB_870)) (fun _ h9 => h9) (v := .int x_1) f_x_1 dX11_draw_5 ?_
  obtain ⟨x_2, ex_2⟩ : ∃ z, (x_1 : Int32).toInt64 = z := ⟨_, rfl⟩
  refine lv_i2l (v := x_2) hx hb dX11_draw_8 ex_2 ?_
  refine lv_lmul hx hb dX11_draw_9 ?_
  refine lv_topl (fun x_3 ex_3 => ?_)
  refine lv_ldc2 hx hb hown (hts _ (bw_mem wB_871)) dX11_draw_10 ?_
  refine lv_ladd hx hb dX11_draw_13 ?_
  refine lv_topl (fun x_4 ex_4 => ?_)
  refine lv_ldc2 hx hb hown (hts _ (bw_mem wB_872)) dX11_draw_14 ?_
  refine lv_land hx hb dX11_draw_17 ?_
  refine lv_topl (fun x_5 ex_5 => ?_)
  obtain ⟨x_6, ex_6⟩ : ∃ z, (x_5 : Int64).toInt32 = z := ⟨_, rfl⟩
  refine lv_l2i (v := x_6) hx hb dX11_draw_18 ex_6 ?_
  refine dg_put (ci := 11) (v := .int x_6) (ty := tyX11 12) (C := RX11) (T := TX11) (N := 13) hx hb hts (fun w h => bw_mem (wU_X11 w h)) tyX11 tyX11_ok nmX11 hown K hP hS hA1 sX_0 rfl 12 (dk_dq rfl) (hts _ (bw_mem wB_870)) (fun _ h9 => h9) rfl (by decide +kernel) rfl rfl dX11_draw_19 (fun S_7 e_7 H locs hP hS => ?_)
  have I_7 := dg_I.uFi (lo := (-2147483648)) (hi := 2147483647) I e_7 sX_0 (by decide +kernel) (show (-2147483648) ≤ (x_6).toInt ∧ (x_6).toInt ≤ 2147483647 from (dk_full _))
  have M_7 := dg_sm.uF M_0 e_7 sX_0 (dk_dq rfl)
  refine lv_iload_n hx hb dX11_draw_22 rfl (lv_at hl 1 rfl) ?_
  refine lv_if_le (tgt := 38) hx hb dX11_draw_23 (dk_dq rfl) (fun c_8 => ?_) (fun c_8 => ?_)
  · have jc_8 := dk_lec (k := 0) (by decide +kernel) c_8
    refine lv_iconst (v := 0) hx hb dX11_draw_38 (by decide +kernel) ?_
    refine W.widen (k := 0) (n := 0) (Nat.le_of_ble_eq_true rfl) (Nat.le_of_ble_eq_true rfl) ?_
    exact dg_iret hx hb hr hlocks rfl hP hS ⟨I_7, M_7, ⟨congrArg Prod.fst (Eq.symm (F_d_draw_p0 (zI_eq f_x_1) (Eq.symm ex_2) ex_3 ex_4 ex_5 (Eq.symm ex_6) e_7 c_8)), congrArg Prod.snd (Eq.symm (F_d_draw_p0 (zI_eq f_x_1) (Eq.symm ex_2) ex_3 ex_4 ex_5 (Eq.symm ex_6) e_7 c_8))⟩, trivial⟩ dX11_draw_39
  · have jc_8 := dk_nlec (k := 0) (by decide +kernel) c_8
    refine lv_aload_n hx hb dX11_draw_26 rfl (lv_at hl 0 rfl) ?_
    refine dg_get (C := RX11) (T := TX11) (N := 13) hx hb hts (fun w h => bw_mem (wU_X11 w h)) hown K hP sX_0 rfl 12 (dk_dq rfl) (hts _ (bw_mem wB_870)) (fun _ h9 => h9) (v := .int x_6) (dg_uF_at e_7) dX11_draw_27 ?_
    refine lv_bipush (v := 64) hx hb dX11_draw_30 (by decide +kernel) ?_
    refine lv_idiv hx hb dX11_draw_32 (by decide +kernel) ?_
    refine lv_topi (fun x_9 ex_9 => ?_)
    refine lv_iload_n hx hb dX11_draw_33 rfl (lv_at hl 1 rfl) ?_
    refine lv_irem hx hb dX11_draw_34 (fun z => absurd (dk_eqc (k := 0) (by decide +kernel) z) (by omega)) ?_
    refine lv_topi (fun x_10 ex_10 => ?_)
    refine lv_goto (tgt := 39) hx hb dX11_draw_35 (dk_dq rfl) ?_
    refine W.widen (k := 0) (n := 0) (Nat.le_of_ble_eq_true rfl) (Nat.le_of_ble_eq_true rfl) ?_
    exact dg_iret hx hb hr hlocks rfl hP hS ⟨I_7, M_7, ⟨congrArg Prod.fst (Eq.symm (F_d_draw_p1 (zI_eq f_x_1) (Eq.symm ex_2) ex_3 ex_4 ex_5 (Eq.symm ex_6) e_7 c_8 ex_9 ex_10)), congrArg Prod.snd (Eq.symm (F_d_draw_p1 (zI_eq f_x_1) (Eq.symm ex_2) ex_3 ex_4 ex_5 (Eq.symm ex_6) e_7 c_8 ex_9 ex_10))⟩, trivial⟩ dX11_draw_39
noncomputable def F_d_quakeCloses_J1 (S_17 : dg_S) (x_16 : Int32) : dg_S × Int32 := (S_17, x_16)
noncomputable def F_d_quakeCloses (o : Nat) (S : dg_S) : dg_S × Int32 := let S_2 : dg_S := (F_d_draw o S (100 : Int32)).1; let x_1 : Int32 := (F_d_draw o S (100 : Int32)).2; let d_3 : Nat := zR o S 0 6; let x_4 : Int32 := zI S d_3 4; (if x_1 < x_4 then let x_8 : Int32 := zI S d_3 0; let S_10 : dg_S := (F_d_draw o S_2 x_8).1; let x_9 : Int32 := (F_d_draw o S_2 x_8).2; let x_11 : Int32 := zI S d_3 1; let S_13 : dg_S := (F_d_draw o S_10 x_11).1; let x_12 : Int32 := (F_d_draw o S_10 x_11).2; let x_14 : Int32 := F_g_placeOf o S_13 d_3 x_9 x_12; let S_17 : dg_S := (F_w_closeCell o S_13 x_14).1; let x_16 : Int32 := (F_w_closeCell o S_13 x_14).2; (F_d_quakeCloses_J1 S_17 x_16) else (S_2, (0 : Int32)))
theorem F_d_quakeCloses_p0 {S_17 : dg_S} {x_16 : Int32}  : F_d_quakeCloses_J1 S_17 x_16 = (S_17, x_16) := rfl
theorem F_d_quakeCloses_p1 {o : Nat} {S : dg_S} {S_17 : dg_S} {x_16 : Int32} {S_2 : dg_S} {x_1 : Int32} {d_3 : Nat} {x_4 : Int32} {x_8 : Int32} {S_10 : dg_S} {x_9 : Int32} {x_11 : Int32} {S_13 : dg_S} {x_12 : Int32} {x_14 : Int32} (h0 : S_2 = (F_d_draw o S (100 : Int32)).1) (h1 : x_1 = (F_d_draw o S (100 : Int32)).2) (h2 : d_3 = zR o S 0 6) (h3 : x_4 = zI S d_3 4) (h4 : x_1 < x_4) (h5 : x_8 = zI S d_3 0) (h6 : S_10 = (F_d_draw o S_2 x_8).1) (h7 : x_9 = (F_d_draw o S_2 x_8).2) (h8 : x_11 = zI S d_3 1) (h9 : S_13 = (F_d_draw o S_10 x_11).1) (h10 : x_12 = (F_d_draw o S_10 x_11).2) (h11 : x_14 = F_g_placeOf o S_13 d_3 x_9 x_12) (h12 : S_17 = (F_w_closeCell o S_13 x_14).1) (h13 : x_16 = (F_w_closeCell o S_13 x_14).2) : F_d_quakeCloses o S = F_d_quakeCloses_J1 S_17 x_16 := by
  replace h0 := Eq.symm h0
  subst h0
  replace h1 := Eq.symm h1
  subst h1
  replace h2 := Eq.symm h2
  subst h2
  replace h3 := Eq.symm h3
  subst h3
  replace h5 := Eq.symm h5
  subst h5
  replace h6 := Eq.symm h6
  subst h6
  replace h7 := Eq.symm h7
  subst h7
  replace h8 := Eq.symm h8
  subst h8
  replace h9 := Eq.symm h9
  subst h9
  replace h10 := Eq.symm h10
  subst h10
  replace h11 := Eq.symm h11
  subst h11
  replace h12 := Eq.symm h12
  subst h12
  replace h13 := Eq.symm h13
  subst h13
  exact (Eq.trans (if_pos h4) rfl)
theorem F_d_quakeCloses_p2 {o : Nat} {S : dg_S} {S_2 : dg_S} {x_1 : Int32} {d_3 : Nat} {x_4 : Int32} (h0 : S_2 = (F_d_draw o S (100 : Int32)).1) (h1 : x_1 = (F_d_draw o S (100 : Int32)).2) (h2 : d_3 = zR o S 0 6) (h3 : x_4 = zI S d_3 4) (h4 : ¬ (x_1 < x_4)) : F_d_quakeCloses o S = (S_2, (0 : Int32)) := by
  replace h0 := Eq.symm h0
  subst h0
  replace h1 := Eq.symm h1
  subst h1
  replace h2 := Eq.symm h2
  subst h2
  replace h3 := Eq.symm h3
  subst h3
  exact (Eq.trans (if_neg h4) rfl)
set_option maxHeartbeats 8000000 in
set_option maxRecDepth 100000 in
theorem c_d_quakeCloses (l : Launch) (g : Nat → ClassId) (D : va_G) (o : Nat) (S : dg_S) (Z1 : Z1X S) (Z2 : Z2X S) (Z3 : Z3X o S) (Z4 : Z4X S) (Z6 : Z6X S) (I : CX o S) (sz : Nat) : Met l yX11_quakeCloses (bw yX11_quakeCloses cX11_quakeCloses 3 (some .boolean)) ({ frames := 3, cells := 0, slots := 0, locals := 74 } : Room) (dk_Pc g D (dg_w g shX o rfX S) sz [.ref (o + 0)]) (va_Qi (fun (r : Int32) S' => CX o S' ∧ dg_sm shX [(0, 12), (36, 9)] [4] S S' ∧ (0 ≤ (r).toInt ∧ (r).toInt ≤ 1) ∧ Z3X o S' ∧ Z4X S' ∧ Z6X S' ∧ dg_FG S S' ∧ (S' = (F_d_quakeCloses o S).1 ∧ r = (F_d_quakeCloses o S).2) ∧ True) (dg_B g D shX o rfX) (dg_A o shX.length sz)) 0 0 (dg_A o shX.length sz) := by
  refine dg_met (cc := cX11_quakeCloses) (maxL := 3) (ret := (some .boolean)) (dk_dq rfl) rfl (Nat.le_of_ble_eq_true rfl) ?_
  intro p e s m args below meth c A hAe harg hx hb hr hml hts hown hlocks hin hP K hS hA1 hA ST hsz ls hl
  rw [← hAe]
  have F : CallFix p m c cX11_quakeCloses 3 s args (bw yX11_quakeCloses cX11_quakeCloses 3 (some .boolean)) RX11 := ⟨hx, hb, hml, hown, hts⟩
  have hl : lv_has ls 3 [(0, .ref (o + 0))] := hl
  have M_0 : dg_sm shX [(0, 12), (36, 9)] [4] S S := dg_sm.rf
  refine lv_aload_n hx hb dX11_quakeCloses_0 rfl (lv_at hl 0 rfl) ?_
  refine lv_bipush (v := 100) hx hb dX11_quakeCloses_1 (by decide +kernel) ?_
  refine dg_calli hS hA1 hA (va_runV (As := [.int 100]) (rest := []) F (c_d_draw l g D o S 100 Z1 Z2 Z3 Z4 Z6 I s.heap.size) (cwV 1 hts (bw_V wB_874 wB_875 wB_876 wB_610 wB_873) rfl rfl rfl (by decide +kernel) ⟨Nat.le_of_ble_eq_true rfl, Nat.le_of_ble_eq_true rfl⟩) (dg_preV sX_0 rfl K ST hP hS hA1 hA) rfl rfl hl.1 rfl (lv_room (Nat.le_of_ble_eq_true rfl)) dX11_quakeCloses_3 ⟨Nat.le_of_ble_eq_true rfl, Nat.le_of_ble_eq_true rfl⟩) (fun x_1 S_2 hw_2 H locs hP hS => ?_)
  obtain ⟨I_2, m_2, w_2_0, -⟩ := hw_2
  have M_2 := dg_sm.tr M_0 m_2 (dk_dq rfl) (dk_dq rfl)
  refine lv_aload_n hx hb dX11_quakeCloses_6 rfl (lv_at hl 0 rfl) ?_
  obtain ⟨d_3, hk_d_3, f_d_3⟩ := dg_I.one (i := 0) (k := 6) (d := 0) I sX_0 (by decide +kernel)
  have hk_d_3 : rX d_3 := hk_d_3
  refine dg_get (C := RX11) (T := TX11) (N := 13) hx hb hts (fun w h => bw_mem (wU_X11 w h)) hown K hP sX_0 rfl 6 (dk_dq rfl) (hts _ (bw_mem wB_286)) (fun _ h9 => h9) (v := .ref (o + d_3)) ((m_2.1 0 6 _ sX_0 (dk_dq rfl)).trans f_d_3) dX11_quakeCloses_7 ?_
  obtain ⟨x_4, f_x_4, b_x_4⟩ := dg_I.int (i := d_3) (k := 4) (lo := (-2147483648)) (hi := 2147483647) I (rX_0 d_3 hk_d_3) (by decide +kernel)
  refine dg_get (C := RX2) (T := TX2) (N := 19) hx hb hts (fun w h => bw_mem (wU_X2 w h)) hown K hP (rX_0 d_3 hk_d_3) rfl 4 (dk_dq rfl) (hts _ (bw_mem wB_877)) (fun _ h9 => h9) (v := .int x_4) ((m_2.1 d_3 4 _ (rX_0 d_3 hk_d_3) (dk_dq rfl)).trans f_x_4) dX11_quakeCloses_10 ?_
  refine lv_icmp_lt (tgt := 18) hx hb dX11_quakeCloses_13 (dk_dq rfl) (fun c_5 => ?_) (fun c_5 => ?_)
  · as_aux_lemma =>
      have hf_5 := dk_full x_1
      have hf_6 := dk_full x_4
      have jc_5 := dk_ltc (k := (x_4).toInt) rfl c_5
      refine lv_aload_n hx hb dX11_quakeCloses_18 rfl (lv_at hl 0 rfl) ?_
      refine lv_aload_n hx hb dX11_quakeCloses_19 rfl (lv_at hl 0 rfl) ?_
      refine dg_get (C := RX11) (T := TX11) (N := 13) hx hb hts (fun w h => bw_mem (wU_X11 w h)) hown K hP sX_0 rfl 6 (dk_dq rfl) (hts _ (bw_mem wB_286)) (fun _ h9 => h9) (v := .ref (o + d_3)) ((m_2.1 0 6 _ sX_0 (dk_dq rfl)).trans f_d_3) dX11_quakeCloses_20 ?_
      obtain ⟨x_8, f_x_8, b_x_8⟩ := dg_I.int (i := d_3) (k := 0) (lo := 0) (hi := 7) I (rX_0 d_3 hk_d_3) (by decide +kernel)
      refine dg_get (C := RX2) (T := TX2) (N := 19) hx hb hts (fun w h => bw_mem (wU_X2 w h)) hown K hP (rX_0 d_3 hk_d_3) rfl 0 (dk_dq rfl) (hts _ (bw_mem wB_878)) (fun _ h9 => h9) (v := .int x_8) ((m_2.1 d_3 0 _ (rX_0 d_3 hk_d_3) (dk_dq rfl)).trans f_x_8) dX11_quakeCloses_23 ?_
      refine dg_calli hS hA1 hA (va_runV (As := [.int x_8]) (rest := []) F (c_d_draw l g D o S_2 x_8 (Z1X.keep Z1 m_2 (dk_dq rfl) (dk_dq rfl) (dk_dq rfl)) (Z2X.keep Z2 m_2 (dk_dq rfl) (dk_dq rfl)) (Z3X.keep Z3 m_2 (dg_FG.sm m_2 (dk_dq rfl)) (dk_dq rfl)) (Z4X.keep Z4 m_2 (dg_FG.sm m_2 (dk_dq rfl)) (dk_dq rfl) (dk_dq rfl)) (Z6X.keep Z6 m_2 (dg_FG.sm m_2 (dk_dq rfl))) I_2 H.size) (cwV 1 hts (bw_V wB_874 wB_875 wB_876 wB_610 wB_873) rfl rfl rfl (by decide +kernel) ⟨Nat.le_of_ble_eq_true rfl, Nat.le_of_ble_eq_true rfl⟩) (dg_preV sX_0 rfl K ST hP hS hA1 hA) rfl rfl hl.1 rfl (lv_room (Nat.le_of_ble_eq_true rfl)) dX11_quakeCloses_26 ⟨Nat.le_of_ble_eq_true rfl, Nat.le_of_ble_eq_true rfl⟩) (fun x_9 S_10 hw_10 H locs hP hS => ?_)
      obtain ⟨I_10, m_10, w_10_0, -⟩ := hw_10
      have M_10 := dg_sm.tr M_2 m_10 (dk_dq rfl) (dk_dq rfl)
      refine lv_istore_n (lv' := [(1, .int x_9), (0, .ref (o + 0))]) hx hb dX11_quakeCloses_29 rfl hl (dk_dq rfl) rfl (fun ls hl => ?_)
      refine lv_aload_n hx hb dX11_quakeCloses_30 rfl (lv_at hl 1 rfl) ?_
      refine lv_aload_n hx hb dX11_quakeCloses_31 rfl (lv_at hl 1 rfl) ?_
      refine dg_get (C := RX11) (T := TX11) (N := 13) hx hb hts (fun w h => bw_mem (wU_X11 w h)) hown K hP sX_0 rfl 6 (dk_dq rfl) (hts _ (bw_mem wB_286)) (fun _ h9 => h9) (v := .ref (o + d_3)) (((m_10.1 0 6 _ sX_0 (dk_dq rfl)).trans (m_2.1 0 6 _ sX_0 (dk_dq rfl))).trans f_d_3) dX11_quakeCloses_32 ?_
      obtain ⟨x_11, f_x_11, b_x_11⟩ := dg_I.int (i := d_3) (k := 1) (lo := 0) (hi := 7) I (rX_0 d_3 hk_d_3) (by decide +kernel)
      refine dg_get (C := RX2) (T := TX2) (N := 19) hx hb hts (fun w h => bw_mem (wU_X2 w h)) hown K hP (rX_0 d_3 hk_d_3) rfl 1 (dk_dq rfl) (hts _ (bw_mem wB_879)) (fun _ h9 => h9) (v := .int x_11) (((m_10.1 d_3 1 _ (rX_0 d_3 hk_d_3) (dk_dq rfl)).trans (m_2.1 d_3 1 _ (rX_0 d_3 hk_d_3) (dk_dq rfl))).trans f_x_11) dX11_quakeCloses_35 ?_
      refine dg_calli hS hA1 hA (va_runV (As := [.int x_11]) (rest := []) F (c_d_draw l g D o S_10 x_11 (Z1X.keep (Z1X.keep Z1 m_2 (dk_dq rfl) (dk_dq rfl) (dk_dq rfl)) m_10 (dk_dq rfl) (dk_dq rfl) (dk_dq rfl)) (Z2X.keep (Z2X.keep Z2 m_2 (dk_dq rfl) (dk_dq rfl)) m_10 (dk_dq rfl) (dk_dq rfl)) (Z3X.keep (Z3X.keep Z3 m_2 (dg_FG.sm m_2 (dk_dq rfl)) (dk_dq rfl)) m_10 (dg_FG.sm m_10 (dk_dq rfl)) (dk_dq rfl)) (Z4X.keep (Z4X.keep Z4 m_2 (dg_FG.sm m_2 (dk_dq rfl)) (dk_dq rfl) (dk_dq rfl)) m_10 (dg_FG.sm m_10 (dk_dq rfl)) (dk_dq rfl) (dk_dq rfl)) (Z6X.keep (Z6X.keep Z6 m_2 (dg_FG.sm m_2 (dk_dq rfl))) m_10 (dg_FG.sm m_10 (dk_dq rfl))) I_10 H.size) (cwV 1 hts (bw_V wB_874 wB_875 wB_876 wB_610 wB_873) rfl rfl rfl (by decide +kernel) ⟨Nat.le_of_ble_eq_true rfl, Nat.le_of_ble_eq_true rfl⟩) (dg_preV sX_0 rfl K ST hP hS hA1 hA) rfl rfl hl.1 rfl (lv_room (Nat.le_of_ble_eq_true rfl)) dX11_quakeCloses_38 ⟨Nat.le_of_ble_eq_true rfl, Nat.le_of_ble_eq_true rfl⟩) (fun x_12 S_13 hw_13 H locs hP hS => ?_)
      obtain ⟨I_13, m_13, w_13_0, -⟩ := hw_13
      have M_13 := dg_sm.tr M_10 m_13 (dk_dq rfl) (dk_dq rfl)
      refine lv_istore_n (lv' := [(2, .int x_12), (1, .int x_9), (0, .ref (o + 0))]) hx hb dX11_quakeCloses_41 rfl hl (dk_dq rfl) rfl (fun ls hl => ?_)
      refine lv_aload_n hx hb dX11_quakeCloses_42 rfl (lv_at hl 2 rfl) ?_
      refine dg_get (C := RX11) (T := TX11) (N := 13) hx hb hts (fun w h => bw_mem (wU_X11 w h)) hown K hP sX_0 rfl 9 (dk_dq rfl) (hts _ (bw_mem wB_858)) (fun _ h9 => h9) (v := .ref (o + 214)) (show S_13.1 0 9 = .ref (o + 214) from dg_I.rel (d := 214) I_13 sX_0 (by decide +kernel)) dX11_quakeCloses_43 ?_
      refine lv_aload_n hx hb dX11_quakeCloses_46 rfl (lv_at hl 2 rfl) ?_
      refine dg_get (C := RX11) (T := TX11) (N := 13) hx hb hts (fun w h => bw_mem (wU_X11 w h)) hown K hP sX_0 rfl 6 (dk_dq rfl) (hts _ (bw_mem wB_286)) (fun _ h9 => h9) (v := .ref (o + d_3)) (((m_13.1 0 6 _ sX_0 (dk_dq rfl)).trans ((m_10.1 0 6 _ sX_0 (dk_dq rfl)).trans (m_2.1 0 6 _ sX_0 (dk_dq rfl)))).trans f_d_3) dX11_quakeCloses_47 ?_
      refine lv_iload_n hx hb dX11_quakeCloses_50 rfl (lv_at hl 1 rfl) ?_
      refine lv_iload_n hx hb dX11_quakeCloses_51 rfl (lv_at hl 0 rfl) ?_
      refine dg_calli hS hA1 hA (va_runV (As := [.int x_9, .int x_12]) (rest := [.ref (o + 214)]) F (c_g_placeOfR l g D o S_13 d_3 hk_d_3 x_9 x_12 x_8 (((m_13.1 d_3 0 _ (rX_0 d_3 hk_d_3) (dk_dq rfl)).trans ((m_10.1 d_3 0 _ (rX_0 d_3 hk_d_3) (dk_dq rfl)).trans (m_2.1 d_3 0 _ (rX_0 d_3 hk_d_3) (dk_dq rfl)))).trans f_x_8) (by omega) x_11 (((m_13.1 d_3 1 _ (rX_0 d_3 hk_d_3) (dk_dq rfl)).trans ((m_10.1 d_3 1 _ (rX_0 d_3 hk_d_3) (dk_dq rfl)).trans (m_2.1 d_3 1 _ (rX_0 d_3 hk_d_3) (dk_dq rfl)))).trans f_x_11) (by omega) I_13 H.size) (cwV 2 hts (bw_V wB_880 wB_55 wB_56 wB_9 wB_53) rfl rfl rfl (by decide +kernel) ⟨Nat.le_of_ble_eq_true rfl, Nat.le_of_ble_eq_true rfl⟩) (dg_preV (rX_0 d_3 hk_d_3) rfl K ST hP hS hA1 hA) rfl rfl hl.1 rfl (lv_room (Nat.le_of_ble_eq_true rfl)) dX11_quakeCloses_52 ⟨Nat.le_of_ble_eq_true rfl, Nat.le_of_ble_eq_true rfl⟩) (fun x_14 S_15 hw_15 H locs hP hS => ?_)
      rw [hw_15.1] at hP
      obtain ⟨hq_15, w_15_0, w_15_1, w_15_2, -⟩ := hw_15
      have w_15_0 : ((-1) ≤ (x_14).toInt ∧ (x_14).toInt ≤ 62) ∧ ((x_14).toInt ≤ (-1) ∨ 8 ≤ (x_14).toInt) := w_15_0
      have w_15_1 : (0 ≤ (x_9).toInt ∧ (x_9).toInt < (x_8).toInt ∧ 0 ≤ (x_12).toInt ∧ (x_12).toInt < (x_11).toInt) → 8 ≤ (x_14).toInt := w_15_1
      refine dg_calli hS hA1 hA (va_runV (As := [.int x_14]) (rest := []) F (c_w_closeCell l g D o S_13 x_14 (by omega) I_13 H.size) (cwV 1 hts (bw_V wB_881 wB_709 wB_710 wB_594 wB_707) rfl rfl rfl (by decide +kernel) ⟨Nat.le_of_ble_eq_true rfl, Nat.le_of_ble_eq_true rfl⟩) (dg_preV sX_214 rfl K ST hP hS hA1 hA) rfl rfl hl.1 rfl (lv_room (Nat.le_of_ble_eq_true rfl)) dX11_quakeCloses_55 ⟨Nat.le_of_ble_eq_true rfl, Nat.le_of_ble_eq_true rfl⟩) (fun x_16 S_17 hw_17 H locs hP hS => ?_)
      obtain ⟨I_17, m_17, w_17_0, w_17_1, w_17_2, -⟩ := hw_17
      have M_17 := dg_sm.tr M_13 m_17 (dk_dq rfl) (dk_dq rfl)
      have w_17_0 : 0 ≤ (x_16).toInt ∧ (x_16).toInt ≤ 1 := w_17_0
      have hF_1 : F_d_quakeCloses o S = F_d_quakeCloses_J1 S_17 x_16 := (F_d_quakeCloses_p1 w_2_0.1 w_2_0.2 (zR_eq f_d_3) (zI_eq f_x_4) c_5 (zI_eq f_x_8) w_10_0.1 w_10_0.2 (zI_eq f_x_11) w_13_0.1 w_13_0.2 w_15_2 w_17_2.1 w_17_2.2)
      refine W.widen (k := 0) (n := 0) (Nat.le_of_ble_eq_true rfl) (Nat.le_of_ble_eq_true rfl) ?_
      exact dg_iret hx hb hr hlocks (dk_znar2 (by omega)) hP hS ⟨I_17, M_17, (by omega), (Z3X.keep (Z3X.keep (Z3X.keep (Z3X.keep Z3 m_2 (dg_FG.sm m_2 (dk_dq rfl)) (dk_dq rfl)) m_10 (dg_FG.sm m_10 (dk_dq rfl)) (dk_dq rfl)) m_13 (dg_FG.sm m_13 (dk_dq rfl)) (dk_dq rfl)) m_17 w_17_1 (dk_dq rfl)), (Z4X.keep (Z4X.keep (Z4X.keep (Z4X.keep Z4 m_2 (dg_FG.sm m_2 (dk_dq rfl)) (dk_dq rfl) (dk_dq rfl)) m_10 (dg_FG.sm m_10 (dk_dq rfl)) (dk_dq rfl) (dk_dq rfl)) m_13 (dg_FG.sm m_13 (dk_dq rfl)) (dk_dq rfl) (dk_dq rfl)) m_17 w_17_1 (dk_dq rfl) (dk_dq rfl)), (Z6X.keep (Z6X.keep (Z6X.keep (Z6X.keep Z6 m_2 (dg_FG.sm m_2 (dk_dq rfl))) m_10 (dg_FG.sm m_10 (dk_dq rfl))) m_13 (dg_FG.sm m_13 (dk_dq rfl))) m_17 w_17_1), (dg_FG.tr (dg_FG.tr (dg_FG.tr (dg_FG.sm m_2 (dk_dq rfl)) (dg_FG.sm m_10 (dk_dq rfl))) (dg_FG.sm m_13 (dk_dq rfl))) w_17_1), ⟨congrArg Prod.fst (Eq.symm (Eq.trans hF_1 (F_d_quakeCloses_p0))), congrArg Prod.snd (Eq.symm (Eq.trans hF_1 (F_d_quakeCloses_p0)))⟩, trivial⟩ dX11_quakeCloses_58
  · have hf_17 := dk_full x_1
    have hf_18 := dk_full x_4
    have jc_5 := dk_nltc (k := (x_4).toInt) rfl c_5
    refine lv_iconst (v := 0) hx hb dX11_quakeCloses_16 (by decide +kernel) ?_
    have hz_20 : (0 : Int32).toInt = 0 := by decide +kernel
    refine W.widen (k := 0) (n := 0) (Nat.le_of_ble_eq_true rfl) (Nat.le_of_ble_eq_true rfl) ?_
    exact dg_iret hx hb hr hlocks (by decide +kernel) hP hS ⟨I_2, M_2, (by decide +kernel), (Z3X.keep Z3 m_2 (dg_FG.sm m_2 (dk_dq rfl)) (dk_dq rfl)), (Z4X.keep Z4 m_2 (dg_FG.sm m_2 (dk_dq rfl)) (dk_dq rfl) (dk_dq rfl)), (Z6X.keep Z6 m_2 (dg_FG.sm m_2 (dk_dq rfl))), (dg_FG.sm m_2 (dk_dq rfl)), ⟨congrArg Prod.fst (Eq.symm (F_d_quakeCloses_p2 w_2_0.1 w_2_0.2 (zR_eq f_d_3) (zI_eq f_x_4) c_5)), congrArg Prod.snd (Eq.symm (F_d_quakeCloses_p2 w_2_0.1 w_2_0.2 (zR_eq f_d_3) (zI_eq f_x_4) c_5))⟩, trivial⟩ dX11_quakeCloses_17
noncomputable def F_d_countOpen_B1 (o : Nat) (S : dg_S) : (Int32 × Int32) → (Int32 × Int32) ⊕ (Int32) := fun w9 => match w9 with | (x_41, x_42) => (if (72 : Int32) ≤ x_41 then (Sum.inr (x_42)) else let x_45 : Int32 := F_p_isOpen o S 3 x_41; let x_47 : Int32 := F_flag o S x_45; let x_49 : Int32 := x_42 + x_47; let x_50 : Int32 := x_41 + 1; (Sum.inl (x_50, x_49)))
noncomputable def F_d_countOpen (o : Nat) (S : dg_S) : Int32 := (lp (F_d_countOpen_B1 o S) (0 : Int32) ((73 - ((0 : Int32)).toInt).toNat + 1) ((0 : Int32), (0 : Int32)))
theorem F_d_countOpen_p0 {o : Nat} {S : dg_S} {x_41 : Int32} {x_42 : Int32} (h0 : (72 : Int32) ≤ x_41) : (F_d_countOpen_B1 o S) (x_41, x_42) = Sum.inr (x_42) := (Eq.trans (if_pos h0) rfl)
theorem F_d_countOpen_p1 {o : Nat} {S : dg_S} {x_41 : Int32} {x_42 : Int32} {x_50 : Int32} {x_49 : Int32} {x_45 : Int32} {x_47 : Int32} (h0 : ¬ ((72 : Int32) ≤ x_41)) (h1 : x_45 = F_p_isOpen o S 3 x_41) (h2 : x_47 = F_flag o S x_45) (h3 : x_49 = x_42 + x_47) (h4 : x_50 = x_41 + 1) : (F_d_countOpen_B1 o S) (x_41, x_42) = Sum.inl (x_50, x_49) := by
  replace h1 := Eq.symm h1
  subst h1
  replace h2 := Eq.symm h2
  subst h2
  replace h3 := Eq.symm h3
  subst h3
  replace h4 := Eq.symm h4
  subst h4
  exact (Eq.trans (if_neg h0) rfl)
theorem F_d_countOpen_p2 {o : Nat} {S : dg_S}  : F_d_countOpen o S = lp (F_d_countOpen_B1 o S) (0 : Int32) ((73 - ((0 : Int32)).toInt).toNat + 1) ((0 : Int32), (0 : Int32)) := rfl
set_option maxHeartbeats 8000000 in
set_option maxRecDepth 100000 in
theorem c_d_countOpen (l : Launch) (g : Nat → ClassId) (D : va_G) (o : Nat) (S : dg_S) (Z1 : Z1X S) (Z2 : Z2X S) (Z3 : Z3X o S) (Z4 : Z4X S) (Z6 : Z6X S) (I : CX o S) (sz : Nat) : Met l yX11_countOpen (bw yX11_countOpen cX11_countOpen 3 (some .int)) ({ frames := 2, cells := 0, slots := 0, locals := 53 } : Room) (dk_Pc g D (dg_w g shX o rfX S) sz [.ref (o + 0)]) (va_Qi (fun (r : Int32) S' => S' = S ∧ (r = F_d_countOpen o S) ∧ True) (dg_B g D shX o rfX) (dg_A o shX.length sz)) 0 0 (dg_A o shX.length sz) := by
  refine dg_met (cc := cX11_countOpen) (maxL := 3) (ret := (some .int)) (dk_dq rfl) rfl (Nat.le_of_ble_eq_true rfl) ?_
  intro p e s m args below meth c A hAe harg hx hb hr hml hts hown hlocks hin hP K hS hA1 hA ST hsz ls hl
  rw [← hAe]
  have F : CallFix p m c cX11_countOpen 3 s args (bw yX11_countOpen cX11_countOpen 3 (some .int)) RX11 := ⟨hx, hb, hml, hown, hts⟩
  have hl : lv_has ls 3 [(0, .ref (o + 0))] := hl
  have M_0 : dg_sm shX [] [] S S := dg_sm.rf
  refine lv_iconst (v := 0) hx hb dX11_countOpen_0 (by decide +kernel) ?_
  refine lv_istore_n (lv' := [(1, .int 0), (0, .ref (o + 0))]) hx hb dX11_countOpen_1 rfl hl (dk_dq rfl) rfl (fun ls hl => ?_)
  refine lv_iconst (v := 0) hx hb dX11_countOpen_2 (by decide +kernel) ?_
  refine lv_istore_n (lv' := [(2, .int 0), (1, .int 0), (0, .ref (o + 0))]) hx hb dX11_countOpen_3 rfl hl (dk_dq rfl) rfl (fun ls hl => ?_)
  have L_43 : ∀ (n : Nat) (x_41 : Int32) (x_42 : Int32), (0 ≤ (x_41).toInt ∧ (x_41).toInt ≤ 72) → ((73 - (x_41).toInt).toNat < n) → (F_d_countOpen o S = lp (F_d_countOpen_B1 o S) (0 : Int32) n (x_41, x_42)) → ∀ (H : Heap) (locs : List Loc), va_P D vwCl (dg_w g shX o rfX S) H → va_S A s.heap H locs → ∀ ls : Array Slot, lv_has ls 3 [(2, .int x_41), (1, .int x_42), (0, .ref (o + 0))] → W p l e ({ frames := 2, cells := 0, slots := 0, locals := 53 } : Room) s m args below meth c H locs 0 0 (MQ below (va_Qi (fun (r : Int32) S' => S' = S ∧ (r = F_d_countOpen o S) ∧ True) (dg_B g D shX o rfX) A) args s 0 0 A) (F0 m 4 ls []) := by
    as_aux_lemma =>
      intro n
      induction n with
      | zero =>
        intro x_41 x_42 b_x_41 hmu hF_1 H locs hP hS ls hl
        omega
      | succ n ih =>
        as_aux_lemma =>
          intro x_41 x_42 b_x_41 hmu hF_1 H locs hP hS ls hl
          refine lv_iload_n hx hb dX11_countOpen_4 rfl (lv_at hl 0 rfl) ?_
          refine lv_bipush (v := 72) hx hb dX11_countOpen_5 (by decide +kernel) ?_
          refine lv_icmp_ge (tgt := 30) hx hb dX11_countOpen_7 (dk_dq rfl) (fun c_44 => ?_) (fun c_44 => ?_)
          · have jc_44 := dk_gec (k := 72) (by decide +kernel) c_44
            refine lv_iload_n hx hb dX11_countOpen_30 rfl (lv_at hl 1 rfl) ?_
            refine W.widen (k := 0) (n := 0) (Nat.le_of_ble_eq_true rfl) (Nat.le_of_ble_eq_true rfl) ?_
            exact dg_iret hx hb hr hlocks rfl hP hS ⟨rfl, (Eq.symm (lp_r hF_1 (F_d_countOpen_p0 c_44))), trivial⟩ dX11_countOpen_31
          · as_aux_lemma =>
              have jc_44 := dk_ngec (k := 72) (by decide +kernel) c_44
              refine lv_iload_n hx hb dX11_countOpen_10 rfl (lv_at hl 1 rfl) ?_
              refine lv_aload_n hx hb dX11_countOpen_11 rfl (lv_at hl 2 rfl) ?_
              refine dg_get (C := RX11) (T := TX11) (N := 13) hx hb hts (fun w h => bw_mem (wU_X11 w h)) hown K hP sX_0 rfl 1 (dk_dq rfl) (hts _ (bw_mem wB_287)) (fun _ h9 => h9) (v := .ref (o + 3)) (show S.1 0 1 = .ref (o + 3) from dg_I.rel (d := 3) I sX_0 (by decide +kernel)) dX11_countOpen_12 ?_
              refine lv_iload_n hx hb dX11_countOpen_15 rfl (lv_at hl 0 rfl) ?_
              refine dg_calli hS hA1 hA (va_runV (As := [.int x_41]) (rest := [.int x_42]) F (c_p_isOpen l g D o S 3 (by unfold pX; decide : pX 3) x_41 (by omega) I H.size) (cwV 1 hts (bw_V wB_882 wB_496 wB_497 wB_493 wB_494) rfl rfl rfl (by decide +kernel) ⟨Nat.le_of_ble_eq_true rfl, Nat.le_of_ble_eq_true rfl⟩) (dg_preV (pX_0 3 (dk_dq rfl)) rfl K ST hP hS hA1 hA) rfl rfl hl.1 rfl (lv_room (Nat.le_of_ble_eq_true rfl)) dX11_countOpen_16 ⟨Nat.le_of_ble_eq_true rfl, Nat.le_of_ble_eq_true rfl⟩) (fun x_45 S_46 hw_46 H locs hP hS => ?_)
              rw [hw_46.1] at hP
              obtain ⟨hq_46, w_46_0, w_46_1, w_46_2, -⟩ := hw_46
              have w_46_0 : 0 ≤ (x_45).toInt ∧ (x_45).toInt ≤ 1 := w_46_0
              have w_46_1 : (x_45).toInt = 1 → (8 ≤ (x_41).toInt ∧ (x_41).toInt ≤ 63) := w_46_1
              refine dg_calli hS hA1 hA (va_runS (As := [.int x_45]) (rest := [.int x_42]) F (c_flag l g D o S x_45 (by omega) I H.size) (va_cwS 1 hts (bw_S wB_884 wB_885 wB_610 wB_883) rfl rfl rfl (by decide +kernel) ⟨Nat.le_of_ble_eq_true rfl, Nat.le_of_ble_eq_true rfl⟩) (dg_preS K ST hP hS hA1 hA) rfl rfl hl.1 rfl (lv_room (Nat.le_of_ble_eq_true rfl)) dX11_countOpen_19 ⟨Nat.le_of_ble_eq_true rfl, Nat.le_of_ble_eq_true rfl⟩) (fun x_47 S_48 hw_48 H locs hP hS => ?_)
              rw [hw_48.1] at hP
              obtain ⟨hq_48, w_48_0, w_48_1, -⟩ := hw_48
              have w_48_0 : 0 ≤ (x_47).toInt ∧ (x_47).toInt ≤ 1 := w_48_0
              refine lv_iadd hx hb dX11_countOpen_22 ?_
              refine lv_topi (fun x_49 ex_49 => ?_)
              refine lv_istore_n (lv' := [(1, .int x_49), (2, .int x_41), (0, .ref (o + 0))]) hx hb dX11_countOpen_23 rfl hl (dk_dq rfl) rfl (fun ls hl => ?_)
              obtain ⟨x_50, ex_50⟩ : ∃ z, z = x_41 + 1 := ⟨_, rfl⟩
              have jx_50 : (x_50).toInt = (x_41).toInt + 1 := by rw [ex_50]; exact dk_addT2 rfl (by decide +kernel) (by omega)
              refine lv_iinc (v := x_50) (lv' := [(2, .int x_50), (1, .int x_49), (0, .ref (o + 0))]) hx hb dX11_countOpen_24 hl (k := 1) rfl (by rw [ex_50]; rfl) (dk_dq rfl) rfl (fun ls hl => ?_)
              refine lv_goto (tgt := 4) hx hb dX11_countOpen_27 (dk_dq rfl) ?_
              exact ih x_50 x_49 (by omega) (by first | exact mu_lt hmu (by omega) (by omega) | omega) (lp_l hF_1 (F_d_countOpen_p1 c_44 w_46_2 w_48_1 ex_49 ex_50)) _ _ hP hS _ (lv_sub hl [0, 1, 2] rfl)
  have hz_51 : (0 : Int32).toInt = 0 := by decide +kernel
  have hz_52 : (0 : Int32).toInt = 0 := by decide +kernel
  have hz_53 : (0 : Int32).toInt = 0 := by decide +kernel
  exact L_43 ((73 - ((0 : Int32)).toInt).toNat + 1) 0 0 (by decide +kernel) (by first | exact mu_lt hmu (by omega) (by omega) | omega) (F_d_countOpen_p2) _ _ hP hS _ (lv_sub hl [0, 1, 2] rfl)
noncomputable def F_d_countLit_B1 (o : Nat) : (Int32 × Int32 × dg_S) → (Int32 × Int32 × dg_S) ⊕ (dg_S × Int32) := fun w9 => match w9 with | (x_51, x_52, S_53) => (if (72 : Int32) ≤ x_51 then (Sum.inr ((S_53, x_52))) else let S_57 : dg_S := (F_w_isLit o S_53 x_51).1; let x_56 : Int32 := (F_w_isLit o S_53 x_51).2; let x_58 : Int32 := F_flag o S_57 x_56; let x_60 : Int32 := x_52 + x_58; let x_61 : Int32 := x_51 + 1; (Sum.inl (x_61, x_60, S_57)))
noncomputable def F_d_countLit (o : Nat) (S : dg_S) : dg_S × Int32 := let d_1 : Nat := zR o S 0 6; let x_2 : Int32 := zI S d_1 0; let x_3 : Int32 := F_g_hasSeam o S d_1; (if x_3 = (0 : Int32) then (S, (0 : Int32)) else let x_6 : Int32 := zI S d_1 3; let S_7 : dg_S := F_w_enter o S d_1 3 x_6; (lp (F_d_countLit_B1 o) (S, (0 : Int32)) ((73 - ((0 : Int32)).toInt).toNat + 1) ((0 : Int32), (0 : Int32), S_7)))
theorem F_d_countLit_p0 {o : Nat} {x_51 : Int32} {x_52 : Int32} {S_53 : dg_S} (h0 : (72 : Int32) ≤ x_51) : (F_d_countLit_B1 o) (x_51, x_52, S_53) = Sum.inr ((S_53, x_52)) := (Eq.trans (if_pos h0) rfl)
theorem F_d_countLit_p1 {o : Nat} {x_51 : Int32} {x_52 : Int32} {S_53 : dg_S} {x_61 : Int32} {x_60 : Int32} {S_57 : dg_S} {x_56 : Int32} {x_58 : Int32} (h0 : ¬ ((72 : Int32) ≤ x_51)) (h1 : S_57 = (F_w_isLit o S_53 x_51).1) (h2 : x_56 = (F_w_isLit o S_53 x_51).2) (h3 : x_58 = F_flag o S_57 x_56) (h4 : x_60 = x_52 + x_58) (h5 : x_61 = x_51 + 1) : (F_d_countLit_B1 o) (x_51, x_52, S_53) = Sum.inl (x_61, x_60, S_57) := by
  replace h1 := Eq.symm h1
  subst h1
  replace h2 := Eq.symm h2
  subst h2
  replace h3 := Eq.symm h3
  subst h3
  replace h4 := Eq.symm h4
  subst h4
  replace h5 := Eq.symm h5
  subst h5
  exact (Eq.trans (if_neg h0) rfl)
theorem F_d_countLit_p2 {o : Nat} {S : dg_S} {S_7 : dg_S} {d_1 : Nat} {x_3 : Int32} {x_6 : Int32} (h0 : d_1 = zR o S 0 6) (h1 : x_3 = F_g_hasSeam o S d_1) (h2 : ¬ (x_3 = (0 : Int32))) (h3 : x_6 = zI S d_1 3) (h4 : S_7 = F_w_enter o S d_1 3 x_6) : F_d_countLit o S = lp (F_d_countLit_B1 o) (S, (0 : Int32)) ((73 - ((0 : Int32)).toInt).toNat + 1) ((0 : Int32), (0 : Int32), S_7) := by
  replace h0 := Eq.symm h0
  subst h0
  replace h1 := Eq.symm h1
  subst h1
  replace h3 := Eq.symm h3
  subst h3
  replace h4 := Eq.symm h4
  subst h4
  exact (Eq.trans (if_neg h2) rfl)
theorem F_d_countLit_p3 {o : Nat} {S : dg_S} {d_1 : Nat} {x_3 : Int32} (h0 : d_1 = zR o S 0 6) (h1 : x_3 = F_g_hasSeam o S d_1) (h2 : x_3 = (0 : Int32)) : F_d_countLit o S = (S, (0 : Int32)) := by
  replace h0 := Eq.symm h0
  subst h0
  replace h1 := Eq.symm h1
  subst h1
  exact (Eq.trans (if_pos h2) rfl)
set_option maxHeartbeats 8000000 in
set_option maxRecDepth 100000 in
theorem c_d_countLit (l : Launch) (g : Nat → ClassId) (D : va_G) (o : Nat) (S : dg_S) (Z1 : Z1X S) (Z2 : Z2X S) (Z3 : Z3X o S) (Z4 : Z4X S) (Z6 : Z6X S) (I : CX o S) (sz : Nat) : Met l yX11_countLit (bw yX11_countLit cX11_countLit 3 (some .int)) ({ frames := 6, cells := 0, slots := 0, locals := 148 } : Room) (dk_Pc g D (dg_w g shX o rfX S) sz [.ref (o + 0)]) (va_Qi (fun (r : Int32) S' => CX o S' ∧ dg_sm shX [(36, 4), (36, 6), (36, 7), (36, 8), (36, 9)] [39, 40, 41, 42] S S' ∧ Z2X S' ∧ Z3X o S' ∧ (S' = (F_d_countLit o S).1 ∧ r = (F_d_countLit o S).2) ∧ True) (dg_B g D shX o rfX) (dg_A o shX.length sz)) 0 0 (dg_A o shX.length sz) := by
  refine dg_met (cc := cX11_countLit) (maxL := 3) (ret := (some .int)) (dk_dq rfl) rfl (Nat.le_of_ble_eq_true rfl) ?_
  intro p e s m args below meth c A hAe harg hx hb hr hml hts hown hlocks hin hP K hS hA1 hA ST hsz ls hl
  rw [← hAe]
  have F : CallFix p m c cX11_countLit 3 s args (bw yX11_countLit cX11_countLit 3 (some .int)) RX11 := ⟨hx, hb, hml, hown, hts⟩
  have hl : lv_has ls 3 [(0, .ref (o + 0))] := hl
  have M_0 : dg_sm shX [(36, 4), (36, 6), (36, 7), (36, 8), (36, 9)] [39, 40, 41, 42] S S := dg_sm.rf
  refine lv_aload_n hx hb dX11_countLit_0 rfl (lv_at hl 0 rfl) ?_
  obtain ⟨d_1, hk_d_1, f_d_1⟩ := dg_I.one (i := 0) (k := 6) (d := 0) I sX_0 (by decide +kernel)
  have hk_d_1 : rX d_1 := hk_d_1
  refine dg_get (C := RX11) (T := TX11) (N := 13) hx hb hts (fun w h => bw_mem (wU_X11 w h)) hown K hP sX_0 rfl 6 (dk_dq rfl) (hts _ (bw_mem wB_286)) (fun _ h9 => h9) (v := .ref (o + d_1)) f_d_1 dX11_countLit_1 ?_
  obtain ⟨x_2, f_x_2, b_x_2⟩ := dg_I.int (i := d_1) (k := 0) (lo := 0) (hi := 7) I (rX_0 d_1 hk_d_1) (by decide +kernel)
  refine dg_calli hS hA1 hA (va_runV (As := []) (rest := []) F (c_g_hasSeam l g D o S d_1 hk_d_1 x_2 f_x_2 (by omega) I s.heap.size) (cwV 0 hts (bw_V wB_854 wB_527 wB_528 wB_9 wB_525) rfl rfl rfl (by decide +kernel) ⟨Nat.le_of_ble_eq_true rfl, Nat.le_of_ble_eq_true rfl⟩) (dg_preV (rX_0 d_1 hk_d_1) rfl K ST hP hS hA1 hA) rfl rfl hl.1 rfl (lv_room (Nat.le_of_ble_eq_true rfl)) dX11_countLit_4 ⟨Nat.le_of_ble_eq_true rfl, Nat.le_of_ble_eq_true rfl⟩) (fun x_3 S_4 hw_4 H locs hP hS => ?_)
  rw [hw_4.1] at hP
  obtain ⟨hq_4, w_4_0, w_4_1, w_4_2, -⟩ := hw_4
  have w_4_0 : 0 ≤ (x_3).toInt ∧ (x_3).toInt ≤ 1 := w_4_0
  have w_4_1 : (x_3).toInt = 1 ↔ 0 < (x_2).toInt := w_4_1
  refine lv_if_ne (tgt := 12) hx hb dX11_countLit_7 (dk_dq rfl) (fun c_5 => ?_) (fun c_5 => ?_)
  · as_aux_lemma =>
      have jc_5 := dk_neqc (k := 0) (by decide +kernel) c_5
      refine lv_aload_n hx hb dX11_countLit_12 rfl (lv_at hl 0 rfl) ?_
      refine dg_get (C := RX11) (T := TX11) (N := 13) hx hb hts (fun w h => bw_mem (wU_X11 w h)) hown K hP sX_0 rfl 9 (dk_dq rfl) (hts _ (bw_mem wB_858)) (fun _ h9 => h9) (v := .ref (o + 214)) (show S.1 0 9 = .ref (o + 214) from dg_I.rel (d := 214) I sX_0 (by decide +kernel)) dX11_countLit_13 ?_
      refine lv_aload_n hx hb dX11_countLit_16 rfl (lv_at hl 0 rfl) ?_
      refine dg_get (C := RX11) (T := TX11) (N := 13) hx hb hts (fun w h => bw_mem (wU_X11 w h)) hown K hP sX_0 rfl 6 (dk_dq rfl) (hts _ (bw_mem wB_286)) (fun _ h9 => h9) (v := .ref (o + d_1)) f_d_1 dX11_countLit_17 ?_
      refine lv_aload_n hx hb dX11_countLit_20 rfl (lv_at hl 0 rfl) ?_
      refine dg_get (C := RX11) (T := TX11) (N := 13) hx hb hts (fun w h => bw_mem (wU_X11 w h)) hown K hP sX_0 rfl 1 (dk_dq rfl) (hts _ (bw_mem wB_287)) (fun _ h9 => h9) (v := .ref (o + 3)) (show S.1 0 1 = .ref (o + 3) from dg_I.rel (d := 3) I sX_0 (by decide +kernel)) dX11_countLit_21 ?_
      refine lv_aload_n hx hb dX11_countLit_24 rfl (lv_at hl 0 rfl) ?_
      refine dg_get (C := RX11) (T := TX11) (N := 13) hx hb hts (fun w h => bw_mem (wU_X11 w h)) hown K hP sX_0 rfl 6 (dk_dq rfl) (hts _ (bw_mem wB_286)) (fun _ h9 => h9) (v := .ref (o + d_1)) f_d_1 dX11_countLit_25 ?_
      obtain ⟨x_6, f_x_6, b_x_6⟩ := dg_I.int (i := d_1) (k := 3) (lo := (-2147483648)) (hi := 2147483647) I (rX_0 d_1 hk_d_1) (by decide +kernel)
      refine dg_get (C := RX2) (T := TX2) (N := 19) hx hb hts (fun w h => bw_mem (wU_X2 w h)) hown K hP (rX_0 d_1 hk_d_1) rfl 3 (dk_dq rfl) (hts _ (bw_mem wB_859)) (fun _ h9 => h9) (v := .int x_6) f_x_6 dX11_countLit_28 ?_
      refine dg_callv hS hA1 hA (va_runV (As := [.ref (o + d_1), .ref (o + 3), .int x_6]) (rest := []) F (c_w_enter l g D o S d_1 hk_d_1 3 (by unfold pX; decide : pX 3) x_6 Z6 I H.size) (cwV 3 hts (bw_V wB_860 wB_676 wB_677 wB_594 wB_674) rfl rfl rfl (by decide +kernel) ⟨Nat.le_of_ble_eq_true rfl, Nat.le_of_ble_eq_true rfl⟩) (dg_preV sX_214 rfl K ST hP hS hA1 hA) rfl rfl hl.1 rfl (lv_room (Nat.le_of_ble_eq_true rfl)) dX11_countLit_31 ⟨Nat.le_of_ble_eq_true rfl, Nat.le_of_ble_eq_true rfl⟩) (fun S_7 hw_7 H locs hP hS => ?_)
      obtain ⟨I_7, m_7, w_7_0, w_7_1, -⟩ := hw_7
      have M_7 := dg_sm.tr M_0 m_7 (dk_dq rfl) (dk_dq rfl)
      refine lv_iconst (v := 0) hx hb dX11_countLit_34 (by decide +kernel) ?_
      refine lv_istore_n (lv' := [(1, .int 0), (0, .ref (o + 0))]) hx hb dX11_countLit_35 rfl hl (dk_dq rfl) rfl (fun ls hl => ?_)
      refine lv_iconst (v := 0) hx hb dX11_countLit_36 (by decide +kernel) ?_
      refine lv_istore_n (lv' := [(2, .int 0), (1, .int 0), (0, .ref (o + 0))]) hx hb dX11_countLit_37 rfl hl (dk_dq rfl) rfl (fun ls hl => ?_)
      have L_54 : ∀ (n : Nat) (x_51 : Int32) (x_52 : Int32), (0 ≤ (x_51).toInt ∧ (x_51).toInt ≤ 72) → ((73 - (x_51).toInt).toNat < n) → ∀ S_53 : dg_S, CX o S_53 → dg_sm shX [(36, 4), (36, 6), (36, 7), (36, 8), (36, 9)] [39, 40, 41, 42] S S_53 → Z2X S_53 → Z3X o S_53 → (F_d_countLit o S = lp (F_d_countLit_B1 o) (S, (0 : Int32)) n (x_51, x_52, S_53)) → ∀ (H : Heap) (locs : List Loc), va_P D vwCl (dg_w g shX o rfX S_53) H → va_S A s.heap H locs → ∀ ls : Array Slot, lv_has ls 3 [(2, .int x_51), (1, .int x_52), (0, .ref (o + 0))] → W p l e ({ frames := 6, cells := 0, slots := 0, locals := 148 } : Room) s m args below meth c H locs 0 0 (MQ below (va_Qi (fun (r : Int32) S' => CX o S' ∧ dg_sm shX [(36, 4), (36, 6), (36, 7), (36, 8), (36, 9)] [39, 40, 41, 42] S S' ∧ Z2X S' ∧ Z3X o S' ∧ (S' = (F_d_countLit o S).1 ∧ r = (F_d_countLit o S).2) ∧ True) (dg_B g D shX o rfX) A) args s 0 0 A) (F0 m 38 ls []) := by
        as_aux_lemma =>
          intro n
          induction n with
          | zero =>
            intro x_51 x_52 b_x_51 hmu S_53 I_53 M_53 Z2_53 Z3_53 hF_1 H locs hP hS ls hl
            omega
          | succ n ih =>
            as_aux_lemma =>
              intro x_51 x_52 b_x_51 hmu S_53 I_53 M_53 Z2_53 Z3_53 hF_1 H locs hP hS ls hl
              refine lv_iload_n hx hb dX11_countLit_38 rfl (lv_at hl 0 rfl) ?_
              refine lv_bipush (v := 72) hx hb dX11_countLit_39 (by decide +kernel) ?_
              refine lv_icmp_ge (tgt := 64) hx hb dX11_countLit_41 (dk_dq rfl) (fun c_55 => ?_) (fun c_55 => ?_)
              · have jc_55 := dk_gec (k := 72) (by decide +kernel) c_55
                refine lv_iload_n hx hb dX11_countLit_64 rfl (lv_at hl 1 rfl) ?_
                refine W.widen (k := 0) (n := 0) (Nat.le_of_ble_eq_true rfl) (Nat.le_of_ble_eq_true rfl) ?_
                exact dg_iret hx hb hr hlocks rfl hP hS ⟨I_53, M_53, Z2_53, Z3_53, ⟨congrArg Prod.fst (Eq.symm (lp_r hF_1 (F_d_countLit_p0 c_55))), congrArg Prod.snd (Eq.symm (lp_r hF_1 (F_d_countLit_p0 c_55)))⟩, trivial⟩ dX11_countLit_65
              · as_aux_lemma =>
                  have jc_55 := dk_ngec (k := 72) (by decide +kernel) c_55
                  refine lv_iload_n hx hb dX11_countLit_44 rfl (lv_at hl 1 rfl) ?_
                  refine lv_aload_n hx hb dX11_countLit_45 rfl (lv_at hl 2 rfl) ?_
                  refine dg_get (C := RX11) (T := TX11) (N := 13) hx hb hts (fun w h => bw_mem (wU_X11 w h)) hown K hP sX_0 rfl 9 (dk_dq rfl) (hts _ (bw_mem wB_858)) (fun _ h9 => h9) (v := .ref (o + 214)) (show S_53.1 0 9 = .ref (o + 214) from dg_I.rel (d := 214) I_53 sX_0 (by decide +kernel)) dX11_countLit_46 ?_
                  refine lv_iload_n hx hb dX11_countLit_49 rfl (lv_at hl 0 rfl) ?_
                  refine dg_calli hS hA1 hA (va_runV (As := [.int x_51]) (rest := [.int x_52]) F (c_w_isLit l g D o S_53 x_51 (by omega) Z2_53 Z3_53 I_53 H.size) (cwV 1 hts (bw_V wB_887 wB_888 wB_889 wB_594 wB_886) rfl rfl rfl (by decide +kernel) ⟨Nat.le_of_ble_eq_true rfl, Nat.le_of_ble_eq_true rfl⟩) (dg_preV sX_214 rfl K ST hP hS hA1 hA) rfl rfl hl.1 rfl (lv_room (Nat.le_of_ble_eq_true rfl)) dX11_countLit_50 ⟨Nat.le_of_ble_eq_true rfl, Nat.le_of_ble_eq_true rfl⟩) (fun x_56 S_57 hw_57 H locs hP hS => ?_)
                  obtain ⟨I_57, m_57, w_57_0, w_57_1, w_57_2, -⟩ := hw_57
                  have M_57 := dg_sm.tr M_53 m_57 (dk_dq rfl) (dk_dq rfl)
                  have w_57_0 : 0 ≤ (x_56).toInt ∧ (x_56).toInt ≤ 1 := w_57_0
                  refine dg_calli hS hA1 hA (va_runS (As := [.int x_56]) (rest := [.int x_52]) F (c_flag l g D o S_57 x_56 (by omega) I_57 H.size) (va_cwS 1 hts (bw_S wB_884 wB_885 wB_610 wB_883) rfl rfl rfl (by decide +kernel) ⟨Nat.le_of_ble_eq_true rfl, Nat.le_of_ble_eq_true rfl⟩) (dg_preS K ST hP hS hA1 hA) rfl rfl hl.1 rfl (lv_room (Nat.le_of_ble_eq_true rfl)) dX11_countLit_53 ⟨Nat.le_of_ble_eq_true rfl, Nat.le_of_ble_eq_true rfl⟩) (fun x_58 S_59 hw_59 H locs hP hS => ?_)
                  rw [hw_59.1] at hP
                  obtain ⟨hq_59, w_59_0, w_59_1, -⟩ := hw_59
                  have w_59_0 : 0 ≤ (x_58).toInt ∧ (x_58).toInt ≤ 1 := w_59_0
                  refine lv_iadd hx hb dX11_countLit_56 ?_
                  refine lv_topi (fun x_60 ex_60 => ?_)
                  refine lv_istore_n (lv' := [(1, .int x_60), (2, .int x_51), (0, .ref (o + 0))]) hx hb dX11_countLit_57 rfl hl (dk_dq rfl) rfl (fun ls hl => ?_)
                  obtain ⟨x_61, ex_61⟩ : ∃ z, z = x_51 + 1 := ⟨_, rfl⟩
                  have jx_61 : (x_61).toInt = (x_51).toInt + 1 := by rw [ex_61]; exact dk_addT2 rfl (by decide +kernel) (by omega)
                  refine lv_iinc (v := x_61) (lv' := [(2, .int x_61), (1, .int x_60), (0, .ref (o + 0))]) hx hb dX11_countLit_58 hl (k := 1) rfl (by rw [ex_61]; rfl) (dk_dq rfl) rfl (fun ls hl => ?_)
                  refine lv_goto (tgt := 38) hx hb dX11_countLit_61 (dk_dq rfl) ?_
                  exact ih x_61 x_60 (by omega) (by first | exact mu_lt hmu (by omega) (by omega) | omega) S_57 I_57 M_57 w_57_1 (Z3X.keep Z3_53 m_57 (dg_FG.sm m_57 (dk_dq rfl)) (dk_dq rfl)) (lp_l hF_1 (F_d_countLit_p1 c_55 w_57_2.1 w_57_2.2 w_59_1 ex_60 ex_61)) _ _ hP hS _ (lv_sub hl [0, 1, 2] rfl)
      have hz_62 : (0 : Int32).toInt = 0 := by decide +kernel
      have hz_63 : (0 : Int32).toInt = 0 := by decide +kernel
      have hz_64 : (0 : Int32).toInt = 0 := by decide +kernel
      exact L_54 ((73 - ((0 : Int32)).toInt).toNat + 1) 0 0 (by decide +kernel) (by first | exact mu_lt hmu (by omega) (by omega) | omega) S_7 I_7 M_7 (Z2X.keep Z2 m_7 (dk_dq rfl) (dk_dq rfl)) w_7_0 (F_d_countLit_p2 (zR_eq f_d_1) w_4_2 c_5 (zI_eq f_x_6) w_7_1) _ _ hP hS _ (lv_sub hl [0, 1, 2] rfl)
  · have jc_5 := dk_eqc (k := 0) (by decide +kernel) c_5
    refine lv_iconst (v := 0) hx hb dX11_countLit_10 (by decide +kernel) ?_
    refine W.widen (k := 0) (n := 0) (Nat.le_of_ble_eq_true rfl) (Nat.le_of_ble_eq_true rfl) ?_
    exact dg_iret hx hb hr hlocks rfl hP hS ⟨I, M_0, Z2, Z3, ⟨congrArg Prod.fst (Eq.symm (F_d_countLit_p3 (zR_eq f_d_1) w_4_2 c_5)), congrArg Prod.snd (Eq.symm (F_d_countLit_p3 (zR_eq f_d_1) w_4_2 c_5))⟩, trivial⟩ dX11_countLit_11
noncomputable def F_d_countCurtains_J2 (o : Nat) (S : dg_S) (x_57 : Int32) (x_51 : Int32) (x_50 : Int32) : (Int32 × Int32) ⊕ (Int32) := let x_63 : Int32 := F_flag o S x_57; let x_65 : Int32 := x_51 + x_63; let x_66 : Int32 := x_50 + 1; (Sum.inl (x_66, x_65))
noncomputable def F_d_countCurtains_B1 (S : dg_S) (o : Nat) : (Int32 × Int32) → (Int32 × Int32) ⊕ (Int32) := fun w9 => match w9 with | (x_50, x_51) => (if (72 : Int32) ≤ x_50 then (Sum.inr (x_51)) else let x_55 : Int32 := S.2.1 4 (x_50 : Int32).toNatClampNeg; (if x_55 = (254 : Int32) then (F_d_countCurtains_J2 o S (1 : Int32) x_51 x_50) else (F_d_countCurtains_J2 o S (0 : Int32) x_51 x_50)))
noncomputable def F_d_countCurtains (o : Nat) (S : dg_S) : Int32 := (lp (F_d_countCurtains_B1 S o) (0 : Int32) ((73 - ((0 : Int32)).toInt).toNat + 1) ((0 : Int32), (0 : Int32)))
theorem F_d_countCurtains_p0 {S : dg_S} {o : Nat} {x_50 : Int32} {x_51 : Int32} (h0 : (72 : Int32) ≤ x_50) : (F_d_countCurtains_B1 S o) (x_50, x_51) = Sum.inr (x_51) := (Eq.trans (if_pos h0) rfl)
theorem F_d_countCurtains_p1 {o : Nat} {S : dg_S} {x_57 : Int32} {x_51 : Int32} {x_50 : Int32} {x_66 : Int32} {x_65 : Int32} {x_63 : Int32} (h0 : x_63 = F_flag o S x_57) (h1 : x_65 = x_51 + x_63) (h2 : x_66 = x_50 + 1) : F_d_countCurtains_J2 o S x_57 x_51 x_50 = Sum.inl (x_66, x_65) := by
  replace h0 := Eq.symm h0
  subst h0
  replace h1 := Eq.symm h1
  subst h1
  replace h2 := Eq.symm h2
  subst h2
  exact rfl
theorem F_d_countCurtains_p2 {S : dg_S} {o : Nat} {x_50 : Int32} {x_51 : Int32} {x_55 : Int32} (h0 : ¬ ((72 : Int32) ≤ x_50)) (h1 : x_55 = S.2.1 4 (x_50 : Int32).toNatClampNeg) (h2 : ¬ (x_55 = (254 : Int32))) : (F_d_countCurtains_B1 S o) (x_50, x_51) = F_d_countCurtains_J2 o S (0 : Int32) x_51 x_50 := by
  replace h1 := Eq.symm h1
  subst h1
  exact (Eq.trans (if_neg h0) (Eq.trans (if_neg h2) rfl))
theorem F_d_countCurtains_p3 {S : dg_S} {o : Nat} {x_50 : Int32} {x_51 : Int32} {x_55 : Int32} (h0 : ¬ ((72 : Int32) ≤ x_50)) (h1 : x_55 = S.2.1 4 (x_50 : Int32).toNatClampNeg) (h2 : x_55 = (254 : Int32)) : (F_d_countCurtains_B1 S o) (x_50, x_51) = F_d_countCurtains_J2 o S (1 : Int32) x_51 x_50 := by
  replace h1 := Eq.symm h1
  subst h1
  exact (Eq.trans (if_neg h0) (Eq.trans (if_pos h2) rfl))
theorem F_d_countCurtains_p4 {o : Nat} {S : dg_S}  : F_d_countCurtains o S = lp (F_d_countCurtains_B1 S o) (0 : Int32) ((73 - ((0 : Int32)).toInt).toNat + 1) ((0 : Int32), (0 : Int32)) := rfl
set_option maxHeartbeats 8000000 in
set_option maxRecDepth 100000 in
theorem c_d_countCurtains (l : Launch) (g : Nat → ClassId) (D : va_G) (o : Nat) (S : dg_S) (Z1 : Z1X S) (Z2 : Z2X S) (Z3 : Z3X o S) (Z4 : Z4X S) (Z6 : Z6X S) (I : CX o S) (sz : Nat) : Met l yX11_countCurtains (bw yX11_countCurtains cX11_countCurtains 3 (some .int)) ({ frames := 2, cells := 0, slots := 0, locals := 52 } : Room) (dk_Pc g D (dg_w g shX o rfX S) sz [.ref (o + 0)]) (va_Qi (fun (r : Int32) S' => S' = S ∧ (r = F_d_countCurtains o S) ∧ True) (dg_B g D shX o rfX) (dg_A o shX.length sz)) 0 0 (dg_A o shX.length sz) := by
  refine dg_met (cc := cX11_countCurtains) (maxL := 3) (ret := (some .int)) (dk_dq rfl) rfl (Nat.le_of_ble_eq_true rfl) ?_
  intro p e s m args below meth c A hAe harg hx hb hr hml hts hown hlocks hin hP K hS hA1 hA ST hsz ls hl
  rw [← hAe]
  have F : CallFix p m c cX11_countCurtains 3 s args (bw yX11_countCurtains cX11_countCurtains 3 (some .int)) RX11 := ⟨hx, hb, hml, hown, hts⟩
  have hl : lv_has ls 3 [(0, .ref (o + 0))] := hl
  have M_0 : dg_sm shX [] [] S S := dg_sm.rf
  refine lv_iconst (v := 0) hx hb dX11_countCurtains_0 (by decide +kernel) ?_
  refine lv_istore_n (lv' := [(1, .int 0), (0, .ref (o + 0))]) hx hb dX11_countCurtains_1 rfl hl (dk_dq rfl) rfl (fun ls hl => ?_)
  refine lv_iconst (v := 0) hx hb dX11_countCurtains_2 (by decide +kernel) ?_
  refine lv_istore_n (lv' := [(2, .int 0), (1, .int 0), (0, .ref (o + 0))]) hx hb dX11_countCurtains_3 rfl hl (dk_dq rfl) rfl (fun ls hl => ?_)
  have L_52 : ∀ (n : Nat) (x_50 : Int32) (x_51 : Int32), (0 ≤ (x_50).toInt ∧ (x_50).toInt ≤ 72) → ((73 - (x_50).toInt).toNat < n) → (F_d_countCurtains o S = lp (F_d_countCurtains_B1 S o) (0 : Int32) n (x_50, x_51)) → ∀ (H : Heap) (locs : List Loc), va_P D vwCl (dg_w g shX o rfX S) H → va_S A s.heap H locs → ∀ ls : Array Slot, lv_has ls 3 [(2, .int x_50), (1, .int x_51), (0, .ref (o + 0))] → W p l e ({ frames := 2, cells := 0, slots := 0, locals := 52 } : Room) s m args below meth c H locs 0 0 (MQ below (va_Qi (fun (r : Int32) S' => S' = S ∧ (r = F_d_countCurtains o S) ∧ True) (dg_B g D shX o rfX) A) args s 0 0 A) (F0 m 4 ls []) := by
    as_aux_lemma =>
      intro n
      induction n with
      | zero =>
        intro x_50 x_51 b_x_50 hmu hF_1 H locs hP hS ls hl
        omega
      | succ n ih =>
        as_aux_lemma =>
          intro x_50 x_51 b_x_50 hmu hF_1 H locs hP hS ls hl
          refine lv_iload_n hx hb dX11_countCurtains_4 rfl (lv_at hl 0 rfl) ?_
          refine lv_bipush (v := 72) hx hb dX11_countCurtains_5 (by decide +kernel) ?_
          refine lv_icmp_ge (tgt := 42) hx hb dX11_countCurtains_7 (dk_dq rfl) (fun c_53 => ?_) (fun c_53 => ?_)
          · have jc_53 := dk_gec (k := 72) (by decide +kernel) c_53
            refine lv_iload_n hx hb dX11_countCurtains_42 rfl (lv_at hl 1 rfl) ?_
            refine W.widen (k := 0) (n := 0) (Nat.le_of_ble_eq_true rfl) (Nat.le_of_ble_eq_true rfl) ?_
            exact dg_iret hx hb hr hlocks rfl hP hS ⟨rfl, (Eq.symm (lp_r hF_1 (F_d_countCurtains_p0 c_53))), trivial⟩ dX11_countCurtains_43
          · as_aux_lemma =>
              have jc_53 := dk_ngec (k := 72) (by decide +kernel) c_53
              refine lv_iload_n hx hb dX11_countCurtains_10 rfl (lv_at hl 1 rfl) ?_
              refine lv_aload_n hx hb dX11_countCurtains_11 rfl (lv_at hl 2 rfl) ?_
              refine dg_get (C := RX11) (T := TX11) (N := 13) hx hb hts (fun w h => bw_mem (wU_X11 w h)) hown K hP sX_0 rfl 1 (dk_dq rfl) (hts _ (bw_mem wB_287)) (fun _ h9 => h9) (v := .ref (o + 3)) (show S.1 0 1 = .ref (o + 3) from dg_I.rel (d := 3) I sX_0 (by decide +kernel)) dX11_countCurtains_12 ?_
              refine dg_get (C := RX5) (T := TX5) (N := 8) hx hb hts (fun w h => bw_mem (wU_X5 w h)) hown K hP (pX_0 3 (dk_dq rfl)) rfl 2 (dk_dq rfl) (hts _ (bw_mem wB_890)) (fun _ h9 => h9) (v := .ref (o + 4)) (show S.1 3 2 = .ref (o + 4) from dg_I.rel (d := 1) I (pX_0 3 (dk_dq rfl)) (by decide +kernel)) dX11_countCurtains_15 ?_
              refine lv_iload_n hx hb dX11_countCurtains_18 rfl (lv_at hl 0 rfl) ?_
              have hin_54 : vp_in x_50 72 := (dk_inv2 (by omega))
              refine dg_iald hx hb K hP (pX_1 3 (dk_dq rfl)) hin_54 dX11_countCurtains_19 (fun x_55 ex_55 => ?_)
              have b_x_55 := dg_cel_at (dg_I.cel (lo := 0) (hi := 255) I (pX_1 3 (dk_dq rfl)) (by decide +kernel) Z6) hin_54 ex_55
              refine lv_sipush (v := 254) hx hb dX11_countCurtains_20 (by decide +kernel) ?_
              have J_62 : ∀ (x_57 : Int32), (0 ≤ (x_57).toInt ∧ (x_57).toInt ≤ 1) → ((F_d_countCurtains_B1 S o) (x_50, x_51) = F_d_countCurtains_J2 o S x_57 x_51 x_50) → ∀ (H : Heap) (locs : List Loc), va_P D vwCl (dg_w g shX o rfX S) H → va_S A s.heap H locs → ∀ ls : Array Slot, lv_has ls 3 [(2, .int x_50), (1, .int x_51), (0, .ref (o + 0))] → W p l e ({ frames := 2, cells := 0, slots := 0, locals := 52 } : Room) s m args below meth c H locs 0 0 (MQ below (va_Qi (fun (r : Int32) S' => S' = S ∧ (r = F_d_countCurtains o S) ∧ True) (dg_B g D shX o rfX) A) args s 0 0 A) (F0 m 31 ls [.int x_57, .int x_51]) := by
                intro x_57 b_x_57 hF_2 H locs hP hS ls hl
                refine dg_calli hS hA1 hA (va_runS (As := [.int x_57]) (rest := [.int x_51]) F (c_flag l g D o S x_57 (by omega) I H.size) (va_cwS 1 hts (bw_S wB_884 wB_885 wB_610 wB_883) rfl rfl rfl (by decide +kernel) ⟨Nat.le_of_ble_eq_true rfl, Nat.le_of_ble_eq_true rfl⟩) (dg_preS K ST hP hS hA1 hA) rfl rfl hl.1 rfl (lv_room (Nat.le_of_ble_eq_true rfl)) dX11_countCurtains_31 ⟨Nat.le_of_ble_eq_true rfl, Nat.le_of_ble_eq_true rfl⟩) (fun x_63 S_64 hw_64 H locs hP hS => ?_)
                rw [hw_64.1] at hP
                obtain ⟨hq_64, w_64_0, w_64_1, -⟩ := hw_64
                have w_64_0 : 0 ≤ (x_63).toInt ∧ (x_63).toInt ≤ 1 := w_64_0
                refine lv_iadd hx hb dX11_countCurtains_34 ?_
                refine lv_topi (fun x_65 ex_65 => ?_)
                refine lv_istore_n (lv' := [(1, .int x_65), (2, .int x_50), (0, .ref (o + 0))]) hx hb dX11_countCurtains_35 rfl hl (dk_dq rfl) rfl (fun ls hl => ?_)
                obtain ⟨x_66, ex_66⟩ : ∃ z, z = x_50 + 1 := ⟨_, rfl⟩
                have jx_66 : (x_66).toInt = (x_50).toInt + 1 := by rw [ex_66]; exact dk_addT2 rfl (by decide +kernel) (by omega)
                refine lv_iinc (v := x_66) (lv' := [(2, .int x_66), (1, .int x_65), (0, .ref (o + 0))]) hx hb dX11_countCurtains_36 hl (k := 1) rfl (by rw [ex_66]; rfl) (dk_dq rfl) rfl (fun ls hl => ?_)
                refine lv_goto (tgt := 4) hx hb dX11_countCurtains_39 (dk_dq rfl) ?_
                exact ih x_66 x_65 (by omega) (by first | exact mu_lt hmu (by omega) (by omega) | omega) (lp_l hF_1 (Eq.trans hF_2 (F_d_countCurtains_p1 w_64_1 ex_65 ex_66))) _ _ hP hS _ (lv_sub hl [0, 1, 2] rfl)
              refine lv_icmp_ne (tgt := 30) hx hb dX11_countCurtains_23 (dk_dq rfl) (fun c_67 => ?_) (fun c_67 => ?_)
              · have jc_67 := dk_neqc (k := 254) (by decide +kernel) c_67
                refine lv_iconst (v := 0) hx hb dX11_countCurtains_30 (by decide +kernel) ?_
                have hz_68 : (0 : Int32).toInt = 0 := by decide +kernel
                exact J_62 0 (by decide +kernel) (F_d_countCurtains_p2 c_53 (Eq.symm ex_55.symm) c_67) _ _ hP hS _ (lv_sub hl [0, 1, 2] rfl)
              · have jc_67 := dk_eqc (k := 254) (by decide +kernel) c_67
                refine lv_iconst (v := 1) hx hb dX11_countCurtains_26 (by decide +kernel) ?_
                refine lv_goto (tgt := 31) hx hb dX11_countCurtains_27 (dk_dq rfl) ?_
                have hz_69 : (1 : Int32).toInt = 1 := by decide +kernel
                exact J_62 1 (by decide +kernel) (F_d_countCurtains_p3 c_53 (Eq.symm ex_55.symm) c_67) _ _ hP hS _ (lv_sub hl [0, 1, 2] rfl)
  have hz_70 : (0 : Int32).toInt = 0 := by decide +kernel
  have hz_71 : (0 : Int32).toInt = 0 := by decide +kernel
  have hz_72 : (0 : Int32).toInt = 0 := by decide +kernel
  exact L_52 ((73 - ((0 : Int32)).toInt).toNat + 1) 0 0 (by decide +kernel) (by first | exact mu_lt hmu (by omega) (by omega) | omega) (F_d_countCurtains_p4) _ _ hP hS _ (lv_sub hl [0, 1, 2] rfl)
noncomputable def F_d_countHurt_B1 (o : Nat) (S : dg_S) : (Int32 × Int32) → (Int32 × Int32) ⊕ (Int32) := fun w9 => match w9 with | (x_45, x_46) => let d_48 : Nat := zR o S 0 6; let x_49 : Int32 := zI S d_48 6; (if x_49 ≤ x_45 then (Sum.inr (x_46)) else let x_52 : Int32 := S.2.1 5 (x_45 : Int32).toNatClampNeg; let x_53 : Int32 := x_46 + x_52; let x_54 : Int32 := x_45 + 1; (Sum.inl (x_54, x_53)))
noncomputable def F_d_countHurt (o : Nat) (S : dg_S) : Int32 := (lp (F_d_countHurt_B1 o S) (0 : Int32) ((7 - ((0 : Int32)).toInt).toNat + 1) ((0 : Int32), (0 : Int32)))
theorem F_d_countHurt_p0 {o : Nat} {S : dg_S} {x_45 : Int32} {x_46 : Int32} {d_48 : Nat} {x_49 : Int32} (h0 : d_48 = zR o S 0 6) (h1 : x_49 = zI S d_48 6) (h2 : x_49 ≤ x_45) : (F_d_countHurt_B1 o S) (x_45, x_46) = Sum.inr (x_46) := by
  replace h0 := Eq.symm h0
  subst h0
  replace h1 := Eq.symm h1
  subst h1
  exact (Eq.trans (if_pos h2) rfl)
theorem F_d_countHurt_p1 {o : Nat} {S : dg_S} {x_45 : Int32} {x_46 : Int32} {x_54 : Int32} {x_53 : Int32} {d_48 : Nat} {x_49 : Int32} {x_52 : Int32} (h0 : d_48 = zR o S 0 6) (h1 : x_49 = zI S d_48 6) (h2 : ¬ (x_49 ≤ x_45)) (h3 : x_52 = S.2.1 5 (x_45 : Int32).toNatClampNeg) (h4 : x_53 = x_46 + x_52) (h5 : x_54 = x_45 + 1) : (F_d_countHurt_B1 o S) (x_45, x_46) = Sum.inl (x_54, x_53) := by
  replace h0 := Eq.symm h0
  subst h0
  replace h1 := Eq.symm h1
  subst h1
  replace h3 := Eq.symm h3
  subst h3
  replace h4 := Eq.symm h4
  subst h4
  replace h5 := Eq.symm h5
  subst h5
  exact (Eq.trans (if_neg h2) rfl)
theorem F_d_countHurt_p2 {o : Nat} {S : dg_S}  : F_d_countHurt o S = lp (F_d_countHurt_B1 o S) (0 : Int32) ((7 - ((0 : Int32)).toInt).toNat + 1) ((0 : Int32), (0 : Int32)) := rfl
set_option maxHeartbeats 8000000 in
set_option maxRecDepth 100000 in
theorem c_d_countHurt (l : Launch) (g : Nat → ClassId) (D : va_G) (o : Nat) (S : dg_S) (Z1 : Z1X S) (Z2 : Z2X S) (Z3 : Z3X o S) (Z4 : Z4X S) (Z6 : Z6X S) (I : CX o S) (sz : Nat) : Met l yX11_countHurt (bw yX11_countHurt cX11_countHurt 3 (some .int)) ({ frames := 1, cells := 0, slots := 0, locals := 32 } : Room) (dk_Pc g D (dg_w g shX o rfX S) sz [.ref (o + 0)]) (va_Qi (fun (r : Int32) S' => S' = S ∧ (r = F_d_countHurt o S) ∧ True) (dg_B g D shX o rfX) (dg_A o shX.length sz)) 0 0 (dg_A o shX.length sz) := by
  refine dg_met (cc := cX11_countHurt) (maxL := 3) (ret := (some .int)) (dk_dq rfl) rfl (Nat.le_of_ble_eq_true rfl) ?_
  intro p e s m args below meth c A hAe harg hx hb hr hml hts hown hlocks hin hP K hS hA1 hA ST hsz ls hl
  rw [← hAe]
  have F : CallFix p m c cX11_countHurt 3 s args (bw yX11_countHurt cX11_countHurt 3 (some .int)) RX11 := ⟨hx, hb, hml, hown, hts⟩
  have hl : lv_has ls 3 [(0, .ref (o + 0))] := hl
  have M_0 : dg_sm shX [] [] S S := dg_sm.rf
  refine lv_iconst (v := 0) hx hb dX11_countHurt_0 (by decide +kernel) ?_
  refine lv_istore_n (lv' := [(1, .int 0), (0, .ref (o + 0))]) hx hb dX11_countHurt_1 rfl hl (dk_dq rfl) rfl (fun ls hl => ?_)
  refine lv_iconst (v := 0) hx hb dX11_countHurt_2 (by decide +kernel) ?_
  refine lv_istore_n (lv' := [(2, .int 0), (1, .int 0), (0, .ref (o + 0))]) hx hb dX11_countHurt_3 rfl hl (dk_dq rfl) rfl (fun ls hl => ?_)
  have L_47 : ∀ (n : Nat) (x_45 : Int32) (x_46 : Int32), (0 ≤ (x_45).toInt ∧ (x_45).toInt ≤ 6) → ((7 - (x_45).toInt).toNat < n) → (F_d_countHurt o S = lp (F_d_countHurt_B1 o S) (0 : Int32) n (x_45, x_46)) → ∀ (H : Heap) (locs : List Loc), va_P D vwCl (dg_w g shX o rfX S) H → va_S A s.heap H locs → ∀ ls : Array Slot, lv_has ls 3 [(2, .int x_45), (1, .int x_46), (0, .ref (o + 0))] → W p l e ({ frames := 1, cells := 0, slots := 0, locals := 32 } : Room) s m args below meth c H locs 0 0 (MQ below (va_Qi (fun (r : Int32) S' => S' = S ∧ (r = F_d_countHurt o S) ∧ True) (dg_B g D shX o rfX) A) args s 0 0 A) (F0 m 4 ls []) := by
    as_aux_lemma =>
      intro n
      induction n with
      | zero =>
        intro x_45 x_46 b_x_45 hmu hF_1 H locs hP hS ls hl
        omega
      | succ n ih =>
        as_aux_lemma =>
          intro x_45 x_46 b_x_45 hmu hF_1 H locs hP hS ls hl
          refine lv_iload_n hx hb dX11_countHurt_4 rfl (lv_at hl 0 rfl) ?_
          refine lv_aload_n hx hb dX11_countHurt_5 rfl (lv_at hl 2 rfl) ?_
          obtain ⟨d_48, hk_d_48, f_d_48⟩ := dg_I.one (i := 0) (k := 6) (d := 0) I sX_0 (by decide +kernel)
          have hk_d_48 : rX d_48 := hk_d_48
          refine dg_get (C := RX11) (T := TX11) (N := 13) hx hb hts (fun w h => bw_mem (wU_X11 w h)) hown K hP sX_0 rfl 6 (dk_dq rfl) (hts _ (bw_mem wB_286)) (fun _ h9 => h9) (v := .ref (o + d_48)) f_d_48 dX11_countHurt_6 ?_
          obtain ⟨x_49, f_x_49, b_x_49⟩ := dg_I.int (i := d_48) (k := 6) (lo := 0) (hi := 6) I (rX_0 d_48 hk_d_48) (by decide +kernel)
          refine dg_get (C := RX2) (T := TX2) (N := 19) hx hb hts (fun w h => bw_mem (wU_X2 w h)) hown K hP (rX_0 d_48 hk_d_48) rfl 6 (dk_dq rfl) (hts _ (bw_mem wB_891)) (fun _ h9 => h9) (v := .int x_49) f_x_49 dX11_countHurt_9 ?_
          refine lv_icmp_ge (tgt := 33) hx hb dX11_countHurt_12 (dk_dq rfl) (fun c_50 => ?_) (fun c_50 => ?_)
          · have jc_50 := dk_gec (k := (x_49).toInt) rfl c_50
            refine lv_iload_n hx hb dX11_countHurt_33 rfl (lv_at hl 1 rfl) ?_
            refine W.widen (k := 0) (n := 0) (Nat.le_of_ble_eq_true rfl) (Nat.le_of_ble_eq_true rfl) ?_
            exact dg_iret hx hb hr hlocks rfl hP hS ⟨rfl, (Eq.symm (lp_r hF_1 (F_d_countHurt_p0 (zR_eq f_d_48) (zI_eq f_x_49) c_50))), trivial⟩ dX11_countHurt_34
          · as_aux_lemma =>
              have jc_50 := dk_ngec (k := (x_49).toInt) rfl c_50
              refine lv_iload_n hx hb dX11_countHurt_15 rfl (lv_at hl 1 rfl) ?_
              refine lv_aload_n hx hb dX11_countHurt_16 rfl (lv_at hl 2 rfl) ?_
              refine dg_get (C := RX11) (T := TX11) (N := 13) hx hb hts (fun w h => bw_mem (wU_X11 w h)) hown K hP sX_0 rfl 1 (dk_dq rfl) (hts _ (bw_mem wB_287)) (fun _ h9 => h9) (v := .ref (o + 3)) (show S.1 0 1 = .ref (o + 3) from dg_I.rel (d := 3) I sX_0 (by decide +kernel)) dX11_countHurt_17 ?_
              refine dg_get (C := RX5) (T := TX5) (N := 8) hx hb hts (fun w h => bw_mem (wU_X5 w h)) hown K hP (pX_0 3 (dk_dq rfl)) rfl 3 (dk_dq rfl) (hts _ (bw_mem wB_892)) (fun _ h9 => h9) (v := .ref (o + 5)) (show S.1 3 3 = .ref (o + 5) from dg_I.rel (d := 2) I (pX_0 3 (dk_dq rfl)) (by decide +kernel)) dX11_countHurt_20 ?_
              refine lv_iload_n hx hb dX11_countHurt_23 rfl (lv_at hl 0 rfl) ?_
              have hin_51 : vp_in x_45 6 := (dk_inv2 (by omega))
              refine dg_iald hx hb K hP (pX_2 3 (dk_dq rfl)) hin_51 dX11_countHurt_24 (fun x_52 ex_52 => ?_)
              refine lv_iadd hx hb dX11_countHurt_25 ?_
              refine lv_topi (fun x_53 ex_53 => ?_)
              refine lv_istore_n (lv' := [(1, .int x_53), (2, .int x_45), (0, .ref (o + 0))]) hx hb dX11_countHurt_26 rfl hl (dk_dq rfl) rfl (fun ls hl => ?_)
              obtain ⟨x_54, ex_54⟩ : ∃ z, z = x_45 + 1 := ⟨_, rfl⟩
              have jx_54 : (x_54).toInt = (x_45).toInt + 1 := by rw [ex_54]; exact dk_addT2 rfl (by decide +kernel) (by omega)
              refine lv_iinc (v := x_54) (lv' := [(2, .int x_54), (1, .int x_53), (0, .ref (o + 0))]) hx hb dX11_countHurt_27 hl (k := 1) rfl (by rw [ex_54]; rfl) (dk_dq rfl) rfl (fun ls hl => ?_)
              refine lv_goto (tgt := 4) hx hb dX11_countHurt_30 (dk_dq rfl) ?_
              exact ih x_54 x_53 (by omega) (by first | exact mu_lt hmu (by omega) (by omega) | omega) (lp_l hF_1 (F_d_countHurt_p1 (zR_eq f_d_48) (zI_eq f_x_49) c_50 (Eq.symm ex_52.symm) ex_53 ex_54)) _ _ hP hS _ (lv_sub hl [0, 1, 2] rfl)
  have hz_55 : (0 : Int32).toInt = 0 := by decide +kernel
  have hz_56 : (0 : Int32).toInt = 0 := by decide +kernel
  have hz_57 : (0 : Int32).toInt = 0 := by decide +kernel
  exact L_47 ((7 - ((0 : Int32)).toInt).toNat + 1) 0 0 (by decide +kernel) (by first | exact mu_lt hmu (by omega) (by omega) | omega) (F_d_countHurt_p2) _ _ hP hS _ (lv_sub hl [0, 1, 2] rfl)
noncomputable def F_d_canBeSold (o : Nat) (S : dg_S) (a1 : Int32) : Int32 := let x_2 : Int32 := S.2.1 8 (a1 : Int32).toNatClampNeg; (if x_2 = (0 : Int32) then let d_5 : Nat := zR o S 0 6; let x_7 : Int32 := S.2.1 (d_5 + 6) (a1 : Int32).toNatClampNeg; let x_8 : Int32 := F_p_tubsFrom o S 3 x_7; let x_11 : Int32 := S.2.1 (d_5 + 7) (a1 : Int32).toNatClampNeg; (if x_8 < x_11 then (0 : Int32) else (1 : Int32)) else (0 : Int32))
theorem F_d_canBeSold_p0 {o : Nat} {S : dg_S} {a1 : Int32} {x_2 : Int32} (h0 : x_2 = S.2.1 8 (a1 : Int32).toNatClampNeg) (h1 : ¬ (x_2 = (0 : Int32))) : F_d_canBeSold o S a1 = (0 : Int32) := by
  replace h0 := Eq.symm h0
  subst h0
  exact (Eq.trans (if_neg h1) rfl)
theorem F_d_canBeSold_p1 {o : Nat} {S : dg_S} {a1 : Int32} {x_2 : Int32} {d_5 : Nat} {x_7 : Int32} {x_8 : Int32} {x_11 : Int32} (h0 : x_2 = S.2.1 8 (a1 : Int32).toNatClampNeg) (h1 : x_2 = (0 : Int32)) (h2 : d_5 = zR o S 0 6) (h3 : x_7 = S.2.1 (d_5 + 6) (a1 : Int32).toNatClampNeg) (h4 : x_8 = F_p_tubsFrom o S 3 x_7) (h5 : x_11 = S.2.1 (d_5 + 7) (a1 : Int32).toNatClampNeg) (h6 : x_8 < x_11) : F_d_canBeSold o S a1 = (0 : Int32) := by
  replace h0 := Eq.symm h0
  subst h0
  replace h2 := Eq.symm h2
  subst h2
  replace h3 := Eq.symm h3
  subst h3
  replace h4 := Eq.symm h4
  subst h4
  replace h5 := Eq.symm h5
  subst h5
  exact (Eq.trans (if_pos h1) (Eq.trans (if_pos h6) rfl))
theorem F_d_canBeSold_p2 {o : Nat} {S : dg_S} {a1 : Int32} {x_2 : Int32} {d_5 : Nat} {x_7 : Int32} {x_8 : Int32} {x_11 : Int32} (h0 : x_2 = S.2.1 8 (a1 : Int32).toNatClampNeg) (h1 : x_2 = (0 : Int32)) (h2 : d_5 = zR o S 0 6) (h3 : x_7 = S.2.1 (d_5 + 6) (a1 : Int32).toNatClampNeg) (h4 : x_8 = F_p_tubsFrom o S 3 x_7) (h5 : x_11 = S.2.1 (d_5 + 7) (a1 : Int32).toNatClampNeg) (h6 : ¬ (x_8 < x_11)) : F_d_canBeSold o S a1 = (1 : Int32) := by
  replace h0 := Eq.symm h0
  subst h0
  replace h2 := Eq.symm h2
  subst h2
  replace h3 := Eq.symm h3
  subst h3
  replace h4 := Eq.symm h4
  subst h4
  replace h5 := Eq.symm h5
  subst h5
  exact (Eq.trans (if_pos h1) (Eq.trans (if_neg h6) rfl))
set_option maxHeartbeats 8000000 in
set_option maxRecDepth 100000 in
theorem c_d_canBeSold (l : Launch) (g : Nat → ClassId) (D : va_G) (o : Nat) (S : dg_S) (a1 : Int32) (b_a1 : 0 ≤ (a1).toInt ∧ (a1).toInt ≤ 4) (Z1 : Z1X S) (Z2 : Z2X S) (Z3 : Z3X o S) (Z4 : Z4X S) (Z6 : Z6X S) (I : CX o S) (sz : Nat) : Met l yX11_canBeSold (bw yX11_canBeSold cX11_canBeSold 2 (some .boolean)) ({ frames := 2, cells := 0, slots := 0, locals := 55 } : Room) (dk_Pc g D (dg_w g shX o rfX S) sz [.ref (o + 0), .int a1]) (va_Qi (fun (r : Int32) S' => S' = S ∧ (0 ≤ (r).toInt ∧ (r).toInt ≤ 1) ∧ (r = F_d_canBeSold o S a1) ∧ True) (dg_B g D shX o rfX) (dg_A o shX.length sz)) 0 0 (dg_A o shX.length sz) := by
  refine dg_met (cc := cX11_canBeSold) (maxL := 2) (ret := (some .boolean)) (dk_dq rfl) rfl (Nat.le_of_ble_eq_true rfl) ?_
  intro p e s m args below meth c A hAe harg hx hb hr hml hts hown hlocks hin hP K hS hA1 hA ST hsz ls hl
  rw [← hAe]
  have F : CallFix p m c cX11_canBeSold 2 s args (bw yX11_canBeSold cX11_canBeSold 2 (some .boolean)) RX11 := ⟨hx, hb, hml, hown, hts⟩
  have hl : lv_has ls 2 [(0, .ref (o + 0)), (1, .int a1)] := hl
  have M_0 : dg_sm shX [] [] S S := dg_sm.rf
  refine lv_aload_n hx hb dX11_canBeSold_0 rfl (lv_at hl 0 rfl) ?_
  refine dg_get (C := RX11) (T := TX11) (N := 13) hx hb hts (fun w h => bw_mem (wU_X11 w h)) hown K hP sX_0 rfl 1 (dk_dq rfl) (hts _ (bw_mem wB_287)) (fun _ h9 => h9) (v := .ref (o + 3)) (show S.1 0 1 = .ref (o + 3) from dg_I.rel (d := 3) I sX_0 (by decide +kernel)) dX11_canBeSold_1 ?_
  refine dg_get (C := RX5) (T := TX5) (N := 8) hx hb hts (fun w h => bw_mem (wU_X5 w h)) hown K hP (pX_0 3 (dk_dq rfl)) rfl 6 (dk_dq rfl) (hts _ (bw_mem wB_893)) (fun _ h9 => h9) (v := .ref (o + 8)) (show S.1 3 6 = .ref (o + 8) from dg_I.rel (d := 5) I (pX_0 3 (dk_dq rfl)) (by decide +kernel)) dX11_canBeSold_4 ?_
  refine lv_iload_n hx hb dX11_canBeSold_7 rfl (lv_at hl 1 rfl) ?_
  have hin_1 : vp_in a1 5 := (dk_inv2 (by omega))
  refine dg_iald hx hb K hP (pX_5 3 (dk_dq rfl)) hin_1 dX11_canBeSold_8 (fun x_2 ex_2 => ?_)
  refine lv_if_ne (tgt := 44) hx hb dX11_canBeSold_9 (dk_dq rfl) (fun c_3 => ?_) (fun c_3 => ?_)
  · have jc_3 := dk_neqc (k := 0) (by decide +kernel) c_3
    refine lv_iconst (v := 0) hx hb dX11_canBeSold_44 (by decide +kernel) ?_
    have hz_4 : (0 : Int32).toInt = 0 := by decide +kernel
    refine W.widen (k := 0) (n := 0) (Nat.le_of_ble_eq_true rfl) (Nat.le_of_ble_eq_true rfl) ?_
    exact dg_iret hx hb hr hlocks (by decide +kernel) hP hS ⟨rfl, (by decide +kernel), (Eq.symm (F_d_canBeSold_p0 (Eq.symm ex_2.symm) c_3)), trivial⟩ dX11_canBeSold_45
  · as_aux_lemma =>
      have jc_3 := dk_eqc (k := 0) (by decide +kernel) c_3
      refine lv_aload_n hx hb dX11_canBeSold_12 rfl (lv_at hl 0 rfl) ?_
      refine dg_get (C := RX11) (T := TX11) (N := 13) hx hb hts (fun w h => bw_mem (wU_X11 w h)) hown K hP sX_0 rfl 1 (dk_dq rfl) (hts _ (bw_mem wB_287)) (fun _ h9 => h9) (v := .ref (o + 3)) (show S.1 0 1 = .ref (o + 3) from dg_I.rel (d := 3) I sX_0 (by decide +kernel)) dX11_canBeSold_13 ?_
      refine lv_aload_n hx hb dX11_canBeSold_16 rfl (lv_at hl 0 rfl) ?_
      obtain ⟨d_5, hk_d_5, f_d_5⟩ := dg_I.one (i := 0) (k := 6) (d := 0) I sX_0 (by decide +kernel)
      have hk_d_5 : rX d_5 := hk_d_5
      refine dg_get (C := RX11) (T := TX11) (N := 13) hx hb hts (fun w h => bw_mem (wU_X11 w h)) hown K hP sX_0 rfl 6 (dk_dq rfl) (hts _ (bw_mem wB_286)) (fun _ h9 => h9) (v := .ref (o + d_5)) f_d_5 dX11_canBeSold_17 ?_
      refine dg_get (C := RX2) (T := TX2) (N := 19) hx hb hts (fun w h => bw_mem (wU_X2 w h)) hown K hP (rX_0 d_5 hk_d_5) rfl 13 (dk_dq rfl) (hts _ (bw_mem wB_894)) (fun _ h9 => h9) (v := .ref (o + (d_5 + 6))) (show S.1 d_5 13 = .ref (o + (d_5 + 6)) from dg_I.rel (d := 6) I (rX_0 d_5 hk_d_5) (by decide +kernel)) dX11_canBeSold_20 ?_
      refine lv_iload_n hx hb dX11_canBeSold_23 rfl (lv_at hl 1 rfl) ?_
      have hin_6 : vp_in a1 5 := (dk_inv2 (by omega))
      refine dg_iald hx hb K hP (rX_6 d_5 hk_d_5) hin_6 dX11_canBeSold_24 (fun x_7 ex_7 => ?_)
      have b_x_7 := dk_all_at (dg_I.row (lo := 0) (hi := 9) I (rX_6 d_5 hk_d_5) (by decide +kernel)) hin_6 ex_7
      refine dg_calli hS hA1 hA (va_runV (As := [.int x_7]) (rest := []) F (c_p_tubsFrom l g D o S 3 (by unfold pX; decide : pX 3) x_7 (by omega) I s.heap.size) (cwV 1 hts (bw_V wB_896 wB_897 wB_898 wB_493 wB_895) rfl rfl rfl (by decide +kernel) ⟨Nat.le_of_ble_eq_true rfl, Nat.le_of_ble_eq_true rfl⟩) (dg_preV (pX_0 3 (dk_dq rfl)) rfl K ST hP hS hA1 hA) rfl rfl hl.1 rfl (lv_room (Nat.le_of_ble_eq_true rfl)) dX11_canBeSold_25 ⟨Nat.le_of_ble_eq_true rfl, Nat.le_of_ble_eq_true rfl⟩) (fun x_8 S_9 hw_9 H locs hP hS => ?_)
      rw [hw_9.1] at hP
      obtain ⟨hq_9, w_9_0, -⟩ := hw_9
      refine lv_aload_n hx hb dX11_canBeSold_28 rfl (lv_at hl 0 rfl) ?_
      refine dg_get (C := RX11) (T := TX11) (N := 13) hx hb hts (fun w h => bw_mem (wU_X11 w h)) hown K hP sX_0 rfl 6 (dk_dq rfl) (hts _ (bw_mem wB_286)) (fun _ h9 => h9) (v := .ref (o + d_5)) f_d_5 dX11_canBeSold_29 ?_
      refine dg_get (C := RX2) (T := TX2) (N := 19) hx hb hts (fun w h => bw_mem (wU_X2 w h)) hown K hP (rX_0 d_5 hk_d_5) rfl 14 (dk_dq rfl) (hts _ (bw_mem wB_899)) (fun _ h9 => h9) (v := .ref (o + (d_5 + 7))) (show S.1 d_5 14 = .ref (o + (d_5 + 7)) from dg_I.rel (d := 7) I (rX_0 d_5 hk_d_5) (by decide +kernel)) dX11_canBeSold_32 ?_
      refine lv_iload_n hx hb dX11_canBeSold_35 rfl (lv_at hl 1 rfl) ?_
      have hin_10 : vp_in a1 5 := (dk_inv2 (by omega))
      refine dg_iald hx hb K hP (rX_7 d_5 hk_d_5) hin_10 dX11_canBeSold_36 (fun x_11 ex_11 => ?_)
      refine lv_icmp_lt (tgt := 44) hx hb dX11_canBeSold_37 (dk_dq rfl) (fun c_12 => ?_) (fun c_12 => ?_)
      · have hf_12 := dk_full x_8
        have hf_13 := dk_full x_11
        have jc_12 := dk_ltc (k := (x_11).toInt) rfl c_12
        refine lv_iconst (v := 0) hx hb dX11_canBeSold_44 (by decide +kernel) ?_
        have hz_15 : (0 : Int32).toInt = 0 := by decide +kernel
        refine W.widen (k := 0) (n := 0) (Nat.le_of_ble_eq_true rfl) (Nat.le_of_ble_eq_true rfl) ?_
        exact dg_iret hx hb hr hlocks (by decide +kernel) hP hS ⟨rfl, (by decide +kernel), (Eq.symm (F_d_canBeSold_p1 (Eq.symm ex_2.symm) c_3 (zR_eq f_d_5) (Eq.symm ex_7.symm) w_9_0 (Eq.symm ex_11.symm) c_12)), trivial⟩ dX11_canBeSold_45
      · have hf_15 := dk_full x_8
        have hf_16 := dk_full x_11
        have jc_12 := dk_nltc (k := (x_11).toInt) rfl c_12
        refine lv_iconst (v := 1) hx hb dX11_canBeSold_40 (by decide +kernel) ?_
        refine lv_goto (tgt := 45) hx hb dX11_canBeSold_41 (dk_dq rfl) ?_
        have hz_18 : (1 : Int32).toInt = 1 := by decide +kernel
        refine W.widen (k := 0) (n := 0) (Nat.le_of_ble_eq_true rfl) (Nat.le_of_ble_eq_true rfl) ?_
        exact dg_iret hx hb hr hlocks (by decide +kernel) hP hS ⟨rfl, (by decide +kernel), (Eq.symm (F_d_canBeSold_p2 (Eq.symm ex_2.symm) c_3 (zR_eq f_d_5) (Eq.symm ex_7.symm) w_9_0 (Eq.symm ex_11.symm) c_12)), trivial⟩ dX11_canBeSold_45
noncomputable def F_d_wantedFrom_J2 (x_90 : Int32) (x_107 : Int32) : (Int32 × Int32) ⊕ (Int32) := let x_110 : Int32 := x_90 + 1; (Sum.inl (x_110, x_107))
noncomputable def F_d_wantedFrom_B1 (o : Nat) (S : dg_S) (a1 : Int32) (a2 : Int32) : (Int32 × Int32) → (Int32 × Int32) ⊕ (Int32) := fun w9 => match w9 with | (x_90, x_91) => let d_93 : Nat := zR o S 0 6; let x_94 : Int32 := zI S d_93 11; (if x_94 ≤ x_90 then (Sum.inr (x_91)) else let x_96 : Int32 := a1 >>> (x_90 &&& 31); let x_97 : Int32 := x_96 &&& (1 : Int32); (if x_97 = (1 : Int32) then let x_113 : Int32 := S.2.1 (d_93 + 6) (x_90 : Int32).toNatClampNeg; (if x_113 < a2 then (F_d_wantedFrom_J2 x_90 x_91) else let x_118 : Int32 := S.2.1 (d_93 + 7) (x_90 : Int32).toNatClampNeg; let x_119 : Int32 := x_91 + x_118; (F_d_wantedFrom_J2 x_90 x_119)) else (F_d_wantedFrom_J2 x_90 x_91)))
noncomputable def F_d_wantedFrom (o : Nat) (S : dg_S) (a1 : Int32) (a2 : Int32) : Int32 := (lp (F_d_wantedFrom_B1 o S a1 a2) (0 : Int32) ((6 - ((0 : Int32)).toInt).toNat + 1) ((0 : Int32), (0 : Int32)))
theorem F_d_wantedFrom_p0 {o : Nat} {S : dg_S} {a1 : Int32} {a2 : Int32} {x_90 : Int32} {x_91 : Int32} {d_93 : Nat} {x_94 : Int32} (h0 : d_93 = zR o S 0 6) (h1 : x_94 = zI S d_93 11) (h2 : x_94 ≤ x_90) : (F_d_wantedFrom_B1 o S a1 a2) (x_90, x_91) = Sum.inr (x_91) := by
  replace h0 := Eq.symm h0
  subst h0
  replace h1 := Eq.symm h1
  subst h1
  exact (Eq.trans (if_pos h2) rfl)
theorem F_d_wantedFrom_p1 {x_90 : Int32} {x_107 : Int32} {x_110 : Int32} (h0 : x_110 = x_90 + 1) : F_d_wantedFrom_J2 x_90 x_107 = Sum.inl (x_110, x_107) := by
  replace h0 := Eq.symm h0
  subst h0
  exact rfl
theorem F_d_wantedFrom_p2 {o : Nat} {S : dg_S} {a1 : Int32} {a2 : Int32} {x_90 : Int32} {x_91 : Int32} {d_93 : Nat} {x_94 : Int32} {x_96 : Int32} {x_97 : Int32} (h0 : d_93 = zR o S 0 6) (h1 : x_94 = zI S d_93 11) (h2 : ¬ (x_94 ≤ x_90)) (h3 : x_96 = a1 >>> (x_90 &&& 31)) (h4 : x_97 = x_96 &&& (1 : Int32)) (h5 : ¬ (x_97 = (1 : Int32))) : (F_d_wantedFrom_B1 o S a1 a2) (x_90, x_91) = F_d_wantedFrom_J2 x_90 x_91 := by
  replace h0 := Eq.symm h0
  subst h0
  replace h1 := Eq.symm h1
  subst h1
  replace h3 := Eq.symm h3
  subst h3
  replace h4 := Eq.symm h4
  subst h4
  exact (Eq.trans (if_neg h2) (Eq.trans (if_neg h5) rfl))
theorem F_d_wantedFrom_p3 {o : Nat} {S : dg_S} {a1 : Int32} {a2 : Int32} {x_90 : Int32} {x_91 : Int32} {d_93 : Nat} {x_94 : Int32} {x_96 : Int32} {x_97 : Int32} {x_113 : Int32} (h0 : d_93 = zR o S 0 6) (h1 : x_94 = zI S d_93 11) (h2 : ¬ (x_94 ≤ x_90)) (h3 : x_96 = a1 >>> (x_90 &&& 31)) (h4 : x_97 = x_96 &&& (1 : Int32)) (h5 : x_97 = (1 : Int32)) (h6 : x_113 = S.2.1 (d_93 + 6) (x_90 : Int32).toNatClampNeg) (h7 : x_113 < a2) : (F_d_wantedFrom_B1 o S a1 a2) (x_90, x_91) = F_d_wantedFrom_J2 x_90 x_91 := by
  replace h0 := Eq.symm h0
  subst h0
  replace h1 := Eq.symm h1
  subst h1
  replace h3 := Eq.symm h3
  subst h3
  replace h4 := Eq.symm h4
  subst h4
  replace h6 := Eq.symm h6
  subst h6
  exact (Eq.trans (if_neg h2) (Eq.trans (if_pos h5) (Eq.trans (if_pos h7) rfl)))
theorem F_d_wantedFrom_p4 {o : Nat} {S : dg_S} {a1 : Int32} {a2 : Int32} {x_90 : Int32} {x_91 : Int32} {x_119 : Int32} {d_93 : Nat} {x_94 : Int32} {x_96 : Int32} {x_97 : Int32} {x_113 : Int32} {x_118 : Int32} (h0 : d_93 = zR o S 0 6) (h1 : x_94 = zI S d_93 11) (h2 : ¬ (x_94 ≤ x_90)) (h3 : x_96 = a1 >>> (x_90 &&& 31)) (h4 : x_97 = x_96 &&& (1 : Int32)) (h5 : x_97 = (1 : Int32)) (h6 : x_113 = S.2.1 (d_93 + 6) (x_90 : Int32).toNatClampNeg) (h7 : ¬ (x_113 < a2)) (h8 : x_118 = S.2.1 (d_93 + 7) (x_90 : Int32).toNatClampNeg) (h9 : x_119 = x_91 + x_118) : (F_d_wantedFrom_B1 o S a1 a2) (x_90, x_91) = F_d_wantedFrom_J2 x_90 x_119 := by
  replace h0 := Eq.symm h0
  subst h0
  replace h1 := Eq.symm h1
  subst h1
  replace h3 := Eq.symm h3
  subst h3
  replace h4 := Eq.symm h4
  subst h4
  replace h6 := Eq.symm h6
  subst h6
  replace h8 := Eq.symm h8
  subst h8
  replace h9 := Eq.symm h9
  subst h9
  exact (Eq.trans (if_neg h2) (Eq.trans (if_pos h5) (Eq.trans (if_neg h7) rfl)))
theorem F_d_wantedFrom_p5 {o : Nat} {S : dg_S} {a1 : Int32} {a2 : Int32}  : F_d_wantedFrom o S a1 a2 = lp (F_d_wantedFrom_B1 o S a1 a2) (0 : Int32) ((6 - ((0 : Int32)).toInt).toNat + 1) ((0 : Int32), (0 : Int32)) := rfl
set_option maxHeartbeats 8000000 in
set_option maxRecDepth 100000 in
theorem c_d_wantedFrom (l : Launch) (g : Nat → ClassId) (D : va_G) (o : Nat) (S : dg_S) (a1 : Int32) (a2 : Int32) (Z1 : Z1X S) (Z2 : Z2X S) (Z3 : Z3X o S) (Z4 : Z4X S) (Z6 : Z6X S) (I : CX o S) (sz : Nat) : Met l yX11_wantedFrom (bw yX11_wantedFrom cX11_wantedFrom 5 (some .int)) ({ frames := 1, cells := 0, slots := 0, locals := 32 } : Room) (dk_Pc g D (dg_w g shX o rfX S) sz [.ref (o + 0), .int a1, .int a2]) (va_Qi (fun (r : Int32) S' => S' = S ∧ (r = F_d_wantedFrom o S a1 a2) ∧ True) (dg_B g D shX o rfX) (dg_A o shX.length sz)) 0 0 (dg_A o shX.length sz) := by
  refine dg_met (cc := cX11_wantedFrom) (maxL := 5) (ret := (some .int)) (dk_dq rfl) rfl (Nat.le_of_ble_eq_true rfl) ?_
  intro p e s m args below meth c A hAe harg hx hb hr hml hts hown hlocks hin hP K hS hA1 hA ST hsz ls hl
  rw [← hAe]
  have F : CallFix p m c cX11_wantedFrom 5 s args (bw yX11_wantedFrom cX11_wantedFrom 5 (some .int)) RX11 := ⟨hx, hb, hml, hown, hts⟩
  have hl : lv_has ls 5 [(0, .ref (o + 0)), (1, .int a1), (2, .int a2)] := hl
  have M_0 : dg_sm shX [] [] S S := dg_sm.rf
  refine lv_iconst (v := 0) hx hb dX11_wantedFrom_0 (by decide +kernel) ?_
  refine lv_istore_n (lv' := [(3, .int 0), (0, .ref (o + 0)), (1, .int a1), (2, .int a2)]) hx hb dX11_wantedFrom_1 rfl hl (dk_dq rfl) rfl (fun ls hl => ?_)
  refine lv_iconst (v := 0) hx hb dX11_wantedFrom_2 (by decide +kernel) ?_
  refine lv_istore (lv' := [(4, .int 0), (3, .int 0), (0, .ref (o + 0)), (1, .int a1), (2, .int a2)]) hx hb dX11_wantedFrom_3 hl (dk_dq rfl) rfl (fun ls hl => ?_)
  have L_92 : ∀ (n : Nat) (x_90 : Int32) (x_91 : Int32), (0 ≤ (x_90).toInt ∧ (x_90).toInt ≤ 5) → ((6 - (x_90).toInt).toNat < n) → (F_d_wantedFrom o S a1 a2 = lp (F_d_wantedFrom_B1 o S a1 a2) (0 : Int32) n (x_90, x_91)) → ∀ (H : Heap) (locs : List Loc), va_P D vwCl (dg_w g shX o rfX S) H → va_S A s.heap H locs → ∀ ls : Array Slot, lv_has ls 5 [(4, .int x_90), (3, .int x_91), (0, .ref (o + 0)), (1, .int a1), (2, .int a2)] → W p l e ({ frames := 1, cells := 0, slots := 0, locals := 32 } : Room) s m args below meth c H locs 0 0 (MQ below (va_Qi (fun (r : Int32) S' => S' = S ∧ (r = F_d_wantedFrom o S a1 a2) ∧ True) (dg_B g D shX o rfX) A) args s 0 0 A) (F0 m 5 ls []) := by
    as_aux_lemma =>
      intro n
      induction n with
      | zero =>
        intro x_90 x_91 b_x_90 hmu hF_1 H locs hP hS ls hl
        omega
      | succ n ih =>
        as_aux_lemma =>
          intro x_90 x_91 b_x_90 hmu hF_1 H locs hP hS ls hl
          refine lv_iload hx hb dX11_wantedFrom_5 (lv_at hl 0 rfl) ?_
          refine lv_aload_n hx hb dX11_wantedFrom_7 rfl (lv_at hl 2 rfl) ?_
          obtain ⟨d_93, hk_d_93, f_d_93⟩ := dg_I.one (i := 0) (k := 6) (d := 0) I sX_0 (by decide +kernel)
          have hk_d_93 : rX d_93 := hk_d_93
          refine dg_get (C := RX11) (T := TX11) (N := 13) hx hb hts (fun w h => bw_mem (wU_X11 w h)) hown K hP sX_0 rfl 6 (dk_dq rfl) (hts _ (bw_mem wB_286)) (fun _ h9 => h9) (v := .ref (o + d_93)) f_d_93 dX11_wantedFrom_8 ?_
          obtain ⟨x_94, f_x_94, b_x_94⟩ := dg_I.int (i := d_93) (k := 11) (lo := 0) (hi := 5) I (rX_0 d_93 hk_d_93) (by decide +kernel)
          refine dg_get (C := RX2) (T := TX2) (N := 19) hx hb hts (fun w h => bw_mem (wU_X2 w h)) hown K hP (rX_0 d_93 hk_d_93) rfl 11 (dk_dq rfl) (hts _ (bw_mem wB_900)) (fun _ h9 => h9) (v := .int x_94) f_x_94 dX11_wantedFrom_11 ?_
          refine lv_icmp_ge (tgt := 60) hx hb dX11_wantedFrom_14 (dk_dq rfl) (fun c_95 => ?_) (fun c_95 => ?_)
          · have jc_95 := dk_gec (k := (x_94).toInt) rfl c_95
            refine lv_iload_n hx hb dX11_wantedFrom_60 rfl (lv_at hl 1 rfl) ?_
            refine W.widen (k := 0) (n := 0) (Nat.le_of_ble_eq_true rfl) (Nat.le_of_ble_eq_true rfl) ?_
            exact dg_iret hx hb hr hlocks rfl hP hS ⟨rfl, (Eq.symm (lp_r hF_1 (F_d_wantedFrom_p0 (zR_eq f_d_93) (zI_eq f_x_94) c_95))), trivial⟩ dX11_wantedFrom_61
          · as_aux_lemma =>
              have jc_95 := dk_ngec (k := (x_94).toInt) rfl c_95
              refine lv_iload_n hx hb dX11_wantedFrom_17 rfl (lv_at hl 3 rfl) ?_
              refine lv_iload hx hb dX11_wantedFrom_18 (lv_at hl 0 rfl) ?_
              refine lv_ishr hx hb dX11_wantedFrom_20 ?_
              refine lv_topi (fun x_96 ex_96 => ?_)
              refine lv_iconst (v := 1) hx hb dX11_wantedFrom_21 (by decide +kernel) ?_
              refine lv_iand hx hb dX11_wantedFrom_22 ?_
              refine lv_topi (fun x_97 ex_97 => ?_)
              refine lv_iconst (v := 1) hx hb dX11_wantedFrom_23 (by decide +kernel) ?_
              have J_109 : ∀ (x_107 : Int32), ((F_d_wantedFrom_B1 o S a1 a2) (x_90, x_91) = F_d_wantedFrom_J2 x_90 x_107) → ∀ (H : Heap) (locs : List Loc), va_P D vwCl (dg_w g shX o rfX S) H → va_S A s.heap H locs → ∀ ls : Array Slot, lv_has ls 5 [(4, .int x_90), (3, .int x_107), (0, .ref (o + 0)), (1, .int a1), (2, .int a2)] → W p l e ({ frames := 1, cells := 0, slots := 0, locals := 32 } : Room) s m args below meth c H locs 0 0 (MQ below (va_Qi (fun (r : Int32) S' => S' = S ∧ (r = F_d_wantedFrom o S a1 a2) ∧ True) (dg_B g D shX o rfX) A) args s 0 0 A) (F0 m 54 ls []) := by
                intro x_107 hF_2 H locs hP hS ls hl
                obtain ⟨x_110, ex_110⟩ : ∃ z, z = x_90 + 1 := ⟨_, rfl⟩
                have jx_110 : (x_110).toInt = (x_90).toInt + 1 := by rw [ex_110]; exact dk_addT2 rfl (by decide +kernel) (by omega)
                refine lv_iinc (v := x_110) (lv' := [(4, .int x_110), (3, .int x_107), (0, .ref (o + 0)), (1, .int a1), (2, .int a2)]) hx hb dX11_wantedFrom_54 hl (k := 0) rfl (by rw [ex_110]; rfl) (dk_dq rfl) rfl (fun ls hl => ?_)
                refine lv_goto (tgt := 5) hx hb dX11_wantedFrom_57 (dk_dq rfl) ?_
                exact ih x_110 x_107 (by omega) (by first | exact mu_lt hmu (by omega) (by omega) | omega) (lp_l hF_1 (Eq.trans hF_2 (F_d_wantedFrom_p1 ex_110))) _ _ hP hS _ (lv_sub hl [0, 1, 2, 3, 4] rfl)
              refine lv_icmp_ne (tgt := 54) hx hb dX11_wantedFrom_24 (dk_dq rfl) (fun c_111 => ?_) (fun c_111 => ?_)
              · have jc_111 := dk_neqc (k := 1) (by decide +kernel) c_111
                exact J_109 x_91  (F_d_wantedFrom_p2 (zR_eq f_d_93) (zI_eq f_x_94) c_95 ex_96 ex_97 c_111) _ _ hP hS _ (lv_sub hl [0, 1, 2, 3, 4] rfl)
              · as_aux_lemma =>
                  have jc_111 := dk_eqc (k := 1) (by decide +kernel) c_111
                  refine lv_aload_n hx hb dX11_wantedFrom_27 rfl (lv_at hl 2 rfl) ?_
                  refine dg_get (C := RX11) (T := TX11) (N := 13) hx hb hts (fun w h => bw_mem (wU_X11 w h)) hown K hP sX_0 rfl 6 (dk_dq rfl) (hts _ (bw_mem wB_286)) (fun _ h9 => h9) (v := .ref (o + d_93)) f_d_93 dX11_wantedFrom_28 ?_
                  refine dg_get (C := RX2) (T := TX2) (N := 19) hx hb hts (fun w h => bw_mem (wU_X2 w h)) hown K hP (rX_0 d_93 hk_d_93) rfl 13 (dk_dq rfl) (hts _ (bw_mem wB_894)) (fun _ h9 => h9) (v := .ref (o + (d_93 + 6))) (show S.1 d_93 13 = .ref (o + (d_93 + 6)) from dg_I.rel (d := 6) I (rX_0 d_93 hk_d_93) (by decide +kernel)) dX11_wantedFrom_31 ?_
                  refine lv_iload hx hb dX11_wantedFrom_34 (lv_at hl 0 rfl) ?_
                  have hin_112 : vp_in x_90 5 := (dk_inv2 (by omega))
                  refine dg_iald hx hb K hP (rX_6 d_93 hk_d_93) hin_112 dX11_wantedFrom_36 (fun x_113 ex_113 => ?_)
                  have b_x_113 := dk_all_at (dg_I.row (lo := 0) (hi := 9) I (rX_6 d_93 hk_d_93) (by decide +kernel)) hin_112 ex_113
                  refine lv_iload_n hx hb dX11_wantedFrom_37 rfl (lv_at hl 4 rfl) ?_
                  refine lv_icmp_lt (tgt := 54) hx hb dX11_wantedFrom_38 (dk_dq rfl) (fun c_114 => ?_) (fun c_114 => ?_)
                  · have hf_114 := dk_full a2
                    have jc_114 := dk_ltc (k := (a2).toInt) rfl c_114
                    exact J_109 x_91  (F_d_wantedFrom_p3 (zR_eq f_d_93) (zI_eq f_x_94) c_95 ex_96 ex_97 c_111 (Eq.symm ex_113.symm) c_114) _ _ hP hS _ (lv_sub hl [0, 1, 2, 3, 4] rfl)
                  · have hf_115 := dk_full a2
                    have jc_114 := dk_nltc (k := (a2).toInt) rfl c_114
                    refine lv_iload_n hx hb dX11_wantedFrom_41 rfl (lv_at hl 1 rfl) ?_
                    refine lv_aload_n hx hb dX11_wantedFrom_42 rfl (lv_at hl 2 rfl) ?_
                    refine dg_get (C := RX11) (T := TX11) (N := 13) hx hb hts (fun w h => bw_mem (wU_X11 w h)) hown K hP sX_0 rfl 6 (dk_dq rfl) (hts _ (bw_mem wB_286)) (fun _ h9 => h9) (v := .ref (o + d_93)) f_d_93 dX11_wantedFrom_43 ?_
                    refine dg_get (C := RX2) (T := TX2) (N := 19) hx hb hts (fun w h => bw_mem (wU_X2 w h)) hown K hP (rX_0 d_93 hk_d_93) rfl 14 (dk_dq rfl) (hts _ (bw_mem wB_899)) (fun _ h9 => h9) (v := .ref (o + (d_93 + 7))) (show S.1 d_93 14 = .ref (o + (d_93 + 7)) from dg_I.rel (d := 7) I (rX_0 d_93 hk_d_93) (by decide +kernel)) dX11_wantedFrom_46 ?_
                    refine lv_iload hx hb dX11_wantedFrom_49 (lv_at hl 0 rfl) ?_
                    have hin_117 : vp_in x_90 5 := (dk_inv2 (by omega))
                    refine dg_iald hx hb K hP (rX_7 d_93 hk_d_93) hin_117 dX11_wantedFrom_51 (fun x_118 ex_118 => ?_)
                    refine lv_iadd hx hb dX11_wantedFrom_52 ?_
                    refine lv_topi (fun x_119 ex_119 => ?_)
                    refine lv_istore_n (lv' := [(3, .int x_119), (4, .int x_90), (0, .ref (o + 0)), (1, .int a1), (2, .int a2)]) hx hb dX11_wantedFrom_53 rfl hl (dk_dq rfl) rfl (fun ls hl => ?_)
                    exact J_109 x_119  (F_d_wantedFrom_p4 (zR_eq f_d_93) (zI_eq f_x_94) c_95 ex_96 ex_97 c_111 (Eq.symm ex_113.symm) c_114 (Eq.symm ex_118.symm) ex_119) _ _ hP hS _ (lv_sub hl [1, 0, 2, 3, 4] rfl)
  have hz_120 : (0 : Int32).toInt = 0 := by decide +kernel
  have hz_121 : (0 : Int32).toInt = 0 := by decide +kernel
  have hz_122 : (0 : Int32).toInt = 0 := by decide +kernel
  exact L_92 ((6 - ((0 : Int32)).toInt).toNat + 1) 0 0 (by decide +kernel) (by first | exact mu_lt hmu (by omega) (by omega) | omega) (F_d_wantedFrom_p5) _ _ hP hS _ (lv_sub hl [0, 1, 2, 3, 4] rfl)
noncomputable def F_d_paidFor_J2 (x_65 : Int32) (x_77 : Int32) : (Int32 × Int32) ⊕ (Int32) := let x_80 : Int32 := x_65 + 1; (Sum.inl (x_80, x_77))
noncomputable def F_d_paidFor_B1 (o : Nat) (S : dg_S) (a1 : Int32) : (Int32 × Int32) → (Int32 × Int32) ⊕ (Int32) := fun w9 => match w9 with | (x_65, x_66) => let d_68 : Nat := zR o S 0 6; let x_69 : Int32 := zI S d_68 11; (if x_69 ≤ x_65 then (Sum.inr (x_66)) else let x_71 : Int32 := a1 >>> (x_65 &&& 31); let x_72 : Int32 := x_71 &&& (1 : Int32); (if x_72 = (1 : Int32) then let x_83 : Int32 := S.2.1 (d_68 + 8) (x_65 : Int32).toNatClampNeg; let x_84 : Int32 := x_66 + x_83; (F_d_paidFor_J2 x_65 x_84) else (F_d_paidFor_J2 x_65 x_66)))
noncomputable def F_d_paidFor (o : Nat) (S : dg_S) (a1 : Int32) : Int32 := (lp (F_d_paidFor_B1 o S a1) (0 : Int32) ((6 - ((0 : Int32)).toInt).toNat + 1) ((0 : Int32), (0 : Int32)))
theorem F_d_paidFor_p0 {o : Nat} {S : dg_S} {a1 : Int32} {x_65 : Int32} {x_66 : Int32} {d_68 : Nat} {x_69 : Int32} (h0 : d_68 = zR o S 0 6) (h1 : x_69 = zI S d_68 11) (h2 : x_69 ≤ x_65) : (F_d_paidFor_B1 o S a1) (x_65, x_66) = Sum.inr (x_66) := by
  replace h0 := Eq.symm h0
  subst h0
  replace h1 := Eq.symm h1
  subst h1
  exact (Eq.trans (if_pos h2) rfl)
theorem F_d_paidFor_p1 {x_65 : Int32} {x_77 : Int32} {x_80 : Int32} (h0 : x_80 = x_65 + 1) : F_d_paidFor_J2 x_65 x_77 = Sum.inl (x_80, x_77) := by
  replace h0 := Eq.symm h0
  subst h0
  exact rfl
theorem F_d_paidFor_p2 {o : Nat} {S : dg_S} {a1 : Int32} {x_65 : Int32} {x_66 : Int32} {d_68 : Nat} {x_69 : Int32} {x_71 : Int32} {x_72 : Int32} (h0 : d_68 = zR o S 0 6) (h1 : x_69 = zI S d_68 11) (h2 : ¬ (x_69 ≤ x_65)) (h3 : x_71 = a1 >>> (x_65 &&& 31)) (h4 : x_72 = x_71 &&& (1 : Int32)) (h5 : ¬ (x_72 = (1 : Int32))) : (F_d_paidFor_B1 o S a1) (x_65, x_66) = F_d_paidFor_J2 x_65 x_66 := by
  replace h0 := Eq.symm h0
  subst h0
  replace h1 := Eq.symm h1
  subst h1
  replace h3 := Eq.symm h3
  subst h3
  replace h4 := Eq.symm h4
  subst h4
  exact (Eq.trans (if_neg h2) (Eq.trans (if_neg h5) rfl))
theorem F_d_paidFor_p3 {o : Nat} {S : dg_S} {a1 : Int32} {x_65 : Int32} {x_66 : Int32} {x_84 : Int32} {d_68 : Nat} {x_69 : Int32} {x_71 : Int32} {x_72 : Int32} {x_83 : Int32} (h0 : d_68 = zR o S 0 6) (h1 : x_69 = zI S d_68 11) (h2 : ¬ (x_69 ≤ x_65)) (h3 : x_71 = a1 >>> (x_65 &&& 31)) (h4 : x_72 = x_71 &&& (1 : Int32)) (h5 : x_72 = (1 : Int32)) (h6 : x_83 = S.2.1 (d_68 + 8) (x_65 : Int32).toNatClampNeg) (h7 : x_84 = x_66 + x_83) : (F_d_paidFor_B1 o S a1) (x_65, x_66) = F_d_paidFor_J2 x_65 x_84 := by
  replace h0 := Eq.symm h0
  subst h0
  replace h1 := Eq.symm h1
  subst h1
  replace h3 := Eq.symm h3
  subst h3
  replace h4 := Eq.symm h4
  subst h4
  replace h6 := Eq.symm h6
  subst h6
  replace h7 := Eq.symm h7
  subst h7
  exact (Eq.trans (if_neg h2) (Eq.trans (if_pos h5) rfl))
theorem F_d_paidFor_p4 {o : Nat} {S : dg_S} {a1 : Int32}  : F_d_paidFor o S a1 = lp (F_d_paidFor_B1 o S a1) (0 : Int32) ((6 - ((0 : Int32)).toInt).toNat + 1) ((0 : Int32), (0 : Int32)) := rfl
set_option maxHeartbeats 8000000 in
set_option maxRecDepth 100000 in
theorem c_d_paidFor (l : Launch) (g : Nat → ClassId) (D : va_G) (o : Nat) (S : dg_S) (a1 : Int32) (Z1 : Z1X S) (Z2 : Z2X S) (Z3 : Z3X o S) (Z4 : Z4X S) (Z6 : Z6X S) (I : CX o S) (sz : Nat) : Met l yX11_paidFor (bw yX11_paidFor cX11_paidFor 4 (some .int)) ({ frames := 1, cells := 0, slots := 0, locals := 32 } : Room) (dk_Pc g D (dg_w g shX o rfX S) sz [.ref (o + 0), .int a1]) (va_Qi (fun (r : Int32) S' => S' = S ∧ (r = F_d_paidFor o S a1) ∧ True) (dg_B g D shX o rfX) (dg_A o shX.length sz)) 0 0 (dg_A o shX.length sz) := by
  refine dg_met (cc := cX11_paidFor) (maxL := 4) (ret := (some .int)) (dk_dq rfl) rfl (Nat.le_of_ble_eq_true rfl) ?_
  intro p e s m args below meth c A hAe harg hx hb hr hml hts hown hlocks hin hP K hS hA1 hA ST hsz ls hl
  rw [← hAe]
  have F : CallFix p m c cX11_paidFor 4 s args (bw yX11_paidFor cX11_paidFor 4 (some .int)) RX11 := ⟨hx, hb, hml, hown, hts⟩
  have hl : lv_has ls 4 [(0, .ref (o + 0)), (1, .int a1)] := hl
  have M_0 : dg_sm shX [] [] S S := dg_sm.rf
  refine lv_iconst (v := 0) hx hb dX11_paidFor_0 (by decide +kernel) ?_
  refine lv_istore_n (lv' := [(2, .int 0), (0, .ref (o + 0)), (1, .int a1)]) hx hb dX11_paidFor_1 rfl hl (dk_dq rfl) rfl (fun ls hl => ?_)
  refine lv_iconst (v := 0) hx hb dX11_paidFor_2 (by decide +kernel) ?_
  refine lv_istore_n (lv' := [(3, .int 0), (2, .int 0), (0, .ref (o + 0)), (1, .int a1)]) hx hb dX11_paidFor_3 rfl hl (dk_dq rfl) rfl (fun ls hl => ?_)
  have L_67 : ∀ (n : Nat) (x_65 : Int32) (x_66 : Int32), (0 ≤ (x_65).toInt ∧ (x_65).toInt ≤ 5) → ((6 - (x_65).toInt).toNat < n) → (F_d_paidFor o S a1 = lp (F_d_paidFor_B1 o S a1) (0 : Int32) n (x_65, x_66)) → ∀ (H : Heap) (locs : List Loc), va_P D vwCl (dg_w g shX o rfX S) H → va_S A s.heap H locs → ∀ ls : Array Slot, lv_has ls 4 [(3, .int x_65), (2, .int x_66), (0, .ref (o + 0)), (1, .int a1)] → W p l e ({ frames := 1, cells := 0, slots := 0, locals := 32 } : Room) s m args below meth c H locs 0 0 (MQ below (va_Qi (fun (r : Int32) S' => S' = S ∧ (r = F_d_paidFor o S a1) ∧ True) (dg_B g D shX o rfX) A) args s 0 0 A) (F0 m 4 ls []) := by
    as_aux_lemma =>
      intro n
      induction n with
      | zero =>
        intro x_65 x_66 b_x_65 hmu hF_1 H locs hP hS ls hl
        omega
      | succ n ih =>
        as_aux_lemma =>
          intro x_65 x_66 b_x_65 hmu hF_1 H locs hP hS ls hl
          refine lv_iload_n hx hb dX11_paidFor_4 rfl (lv_at hl 0 rfl) ?_
          refine lv_aload_n hx hb dX11_paidFor_5 rfl (lv_at hl 2 rfl) ?_
          obtain ⟨d_68, hk_d_68, f_d_68⟩ := dg_I.one (i := 0) (k := 6) (d := 0) I sX_0 (by decide +kernel)
          have hk_d_68 : rX d_68 := hk_d_68
          refine dg_get (C := RX11) (T := TX11) (N := 13) hx hb hts (fun w h => bw_mem (wU_X11 w h)) hown K hP sX_0 rfl 6 (dk_dq rfl) (hts _ (bw_mem wB_286)) (fun _ h9 => h9) (v := .ref (o + d_68)) f_d_68 dX11_paidFor_6 ?_
          obtain ⟨x_69, f_x_69, b_x_69⟩ := dg_I.int (i := d_68) (k := 11) (lo := 0) (hi := 5) I (rX_0 d_68 hk_d_68) (by decide +kernel)
          refine dg_get (C := RX2) (T := TX2) (N := 19) hx hb hts (fun w h => bw_mem (wU_X2 w h)) hown K hP (rX_0 d_68 hk_d_68) rfl 11 (dk_dq rfl) (hts _ (bw_mem wB_900)) (fun _ h9 => h9) (v := .int x_69) f_x_69 dX11_paidFor_9 ?_
          refine lv_icmp_ge (tgt := 42) hx hb dX11_paidFor_12 (dk_dq rfl) (fun c_70 => ?_) (fun c_70 => ?_)
          · have jc_70 := dk_gec (k := (x_69).toInt) rfl c_70
            refine lv_iload_n hx hb dX11_paidFor_42 rfl (lv_at hl 1 rfl) ?_
            refine W.widen (k := 0) (n := 0) (Nat.le_of_ble_eq_true rfl) (Nat.le_of_ble_eq_true rfl) ?_
            exact dg_iret hx hb hr hlocks rfl hP hS ⟨rfl, (Eq.symm (lp_r hF_1 (F_d_paidFor_p0 (zR_eq f_d_68) (zI_eq f_x_69) c_70))), trivial⟩ dX11_paidFor_43
          · as_aux_lemma =>
              have jc_70 := dk_ngec (k := (x_69).toInt) rfl c_70
              refine lv_iload_n hx hb dX11_paidFor_15 rfl (lv_at hl 3 rfl) ?_
              refine lv_iload_n hx hb dX11_paidFor_16 rfl (lv_at hl 0 rfl) ?_
              refine lv_ishr hx hb dX11_paidFor_17 ?_
              refine lv_topi (fun x_71 ex_71 => ?_)
              refine lv_iconst (v := 1) hx hb dX11_paidFor_18 (by decide +kernel) ?_
              refine lv_iand hx hb dX11_paidFor_19 ?_
              refine lv_topi (fun x_72 ex_72 => ?_)
              refine lv_iconst (v := 1) hx hb dX11_paidFor_20 (by decide +kernel) ?_
              have J_79 : ∀ (x_77 : Int32), ((F_d_paidFor_B1 o S a1) (x_65, x_66) = F_d_paidFor_J2 x_65 x_77) → ∀ (H : Heap) (locs : List Loc), va_P D vwCl (dg_w g shX o rfX S) H → va_S A s.heap H locs → ∀ ls : Array Slot, lv_has ls 4 [(3, .int x_65), (2, .int x_77), (0, .ref (o + 0)), (1, .int a1)] → W p l e ({ frames := 1, cells := 0, slots := 0, locals := 32 } : Room) s m args below meth c H locs 0 0 (MQ below (va_Qi (fun (r : Int32) S' => S' = S ∧ (r = F_d_paidFor o S a1) ∧ True) (dg_B g D shX o rfX) A) args s 0 0 A) (F0 m 36 ls []) := by
                intro x_77 hF_2 H locs hP hS ls hl
                obtain ⟨x_80, ex_80⟩ : ∃ z, z = x_65 + 1 := ⟨_, rfl⟩
                have jx_80 : (x_80).toInt = (x_65).toInt + 1 := by rw [ex_80]; exact dk_addT2 rfl (by decide +kernel) (by omega)
                refine lv_iinc (v := x_80) (lv' := [(3, .int x_80), (2, .int x_77), (0, .ref (o + 0)), (1, .int a1)]) hx hb dX11_paidFor_36 hl (k := 0) rfl (by rw [ex_80]; rfl) (dk_dq rfl) rfl (fun ls hl => ?_)
                refine lv_goto (tgt := 4) hx hb dX11_paidFor_39 (dk_dq rfl) ?_
                exact ih x_80 x_77 (by omega) (by first | exact mu_lt hmu (by omega) (by omega) | omega) (lp_l hF_1 (Eq.trans hF_2 (F_d_paidFor_p1 ex_80))) _ _ hP hS _ (lv_sub hl [0, 1, 2, 3] rfl)
              refine lv_icmp_ne (tgt := 36) hx hb dX11_paidFor_21 (dk_dq rfl) (fun c_81 => ?_) (fun c_81 => ?_)
              · have jc_81 := dk_neqc (k := 1) (by decide +kernel) c_81
                exact J_79 x_66  (F_d_paidFor_p2 (zR_eq f_d_68) (zI_eq f_x_69) c_70 ex_71 ex_72 c_81) _ _ hP hS _ (lv_sub hl [0, 1, 2, 3] rfl)
              · have jc_81 := dk_eqc (k := 1) (by decide +kernel) c_81
                refine lv_iload_n hx hb dX11_paidFor_24 rfl (lv_at hl 1 rfl) ?_
                refine lv_aload_n hx hb dX11_paidFor_25 rfl (lv_at hl 2 rfl) ?_
                refine dg_get (C := RX11) (T := TX11) (N := 13) hx hb hts (fun w h => bw_mem (wU_X11 w h)) hown K hP sX_0 rfl 6 (dk_dq rfl) (hts _ (bw_mem wB_286)) (fun _ h9 => h9) (v := .ref (o + d_68)) f_d_68 dX11_paidFor_26 ?_
                refine dg_get (C := RX2) (T := TX2) (N := 19) hx hb hts (fun w h => bw_mem (wU_X2 w h)) hown K hP (rX_0 d_68 hk_d_68) rfl 15 (dk_dq rfl) (hts _ (bw_mem wB_901)) (fun _ h9 => h9) (v := .ref (o + (d_68 + 8))) (show S.1 d_68 15 = .ref (o + (d_68 + 8)) from dg_I.rel (d := 8) I (rX_0 d_68 hk_d_68) (by decide +kernel)) dX11_paidFor_29 ?_
                refine lv_iload_n hx hb dX11_paidFor_32 rfl (lv_at hl 0 rfl) ?_
                have hin_82 : vp_in x_65 5 := (dk_inv2 (by omega))
                refine dg_iald hx hb K hP (rX_8 d_68 hk_d_68) hin_82 dX11_paidFor_33 (fun x_83 ex_83 => ?_)
                refine lv_iadd hx hb dX11_paidFor_34 ?_
                refine lv_topi (fun x_84 ex_84 => ?_)
                refine lv_istore_n (lv' := [(2, .int x_84), (3, .int x_65), (0, .ref (o + 0)), (1, .int a1)]) hx hb dX11_paidFor_35 rfl hl (dk_dq rfl) rfl (fun ls hl => ?_)
                exact J_79 x_84  (F_d_paidFor_p3 (zR_eq f_d_68) (zI_eq f_x_69) c_70 ex_71 ex_72 c_81 (Eq.symm ex_83.symm) ex_84) _ _ hP hS _ (lv_sub hl [1, 0, 2, 3] rfl)
  have hz_85 : (0 : Int32).toInt = 0 := by decide +kernel
  have hz_86 : (0 : Int32).toInt = 0 := by decide +kernel
  have hz_87 : (0 : Int32).toInt = 0 := by decide +kernel
  exact L_67 ((6 - ((0 : Int32)).toInt).toNat + 1) 0 0 (by decide +kernel) (by first | exact mu_lt hmu (by omega) (by omega) | omega) (F_d_paidFor_p4) _ _ hP hS _ (lv_sub hl [0, 1, 2, 3] rfl)
noncomputable def F_d_canAllBeSold_J2 (x_126 : Int32) : (Int32) ⊕ (Int32) := let x_153 : Int32 := x_126 + 1; (Sum.inl x_153)
noncomputable def F_d_canAllBeSold_B1 (o : Nat) (S : dg_S) (a1 : Int32) : Int32 → (Int32) ⊕ (Int32) := fun w9 => match w9 with | x_126 => let d_128 : Nat := zR o S 0 6; let x_129 : Int32 := zI S d_128 11; (if x_129 ≤ x_126 then (Sum.inr ((1 : Int32))) else let x_132 : Int32 := a1 >>> (x_126 &&& 31); let x_133 : Int32 := x_132 &&& (1 : Int32); (if x_133 = (0 : Int32) then (F_d_canAllBeSold_J2 x_126) else let x_156 : Int32 := S.2.1 (d_128 + 6) (x_126 : Int32).toNatClampNeg; let x_158 : Int32 := S.2.1 8 (x_126 : Int32).toNatClampNeg; (if x_158 = (1 : Int32) then (Sum.inr ((0 : Int32))) else let x_161 : Int32 := F_d_wantedFrom o S a1 x_156; let x_163 : Int32 := F_p_tubsFrom o S 3 x_156; (if x_161 ≤ x_163 then (F_d_canAllBeSold_J2 x_126) else (Sum.inr ((0 : Int32)))))))
noncomputable def F_d_canAllBeSold (o : Nat) (S : dg_S) (a1 : Int32) : Int32 := (lp (F_d_canAllBeSold_B1 o S a1) (0 : Int32) ((6 - ((0 : Int32)).toInt).toNat + 1) (0 : Int32))
theorem F_d_canAllBeSold_p0 {o : Nat} {S : dg_S} {a1 : Int32} {x_126 : Int32} {d_128 : Nat} {x_129 : Int32} (h0 : d_128 = zR o S 0 6) (h1 : x_129 = zI S d_128 11) (h2 : x_129 ≤ x_126) : (F_d_canAllBeSold_B1 o S a1) x_126 = Sum.inr ((1 : Int32)) := by
  replace h0 := Eq.symm h0
  subst h0
  replace h1 := Eq.symm h1
  subst h1
  exact (Eq.trans (if_pos h2) rfl)
theorem F_d_canAllBeSold_p1 {x_126 : Int32} {x_153 : Int32} (h0 : x_153 = x_126 + 1) : F_d_canAllBeSold_J2 x_126 = Sum.inl x_153 := by
  replace h0 := Eq.symm h0
  subst h0
  exact rfl
theorem F_d_canAllBeSold_p2 {o : Nat} {S : dg_S} {a1 : Int32} {x_126 : Int32} {d_128 : Nat} {x_129 : Int32} {x_132 : Int32} {x_133 : Int32} {x_158 : Int32} (h0 : d_128 = zR o S 0 6) (h1 : x_129 = zI S d_128 11) (h2 : ¬ (x_129 ≤ x_126)) (h3 : x_132 = a1 >>> (x_126 &&& 31)) (h4 : x_133 = x_132 &&& (1 : Int32)) (h5 : ¬ (x_133 = (0 : Int32))) (h6 : x_158 = S.2.1 8 (x_126 : Int32).toNatClampNeg) (h7 : x_158 = (1 : Int32)) : (F_d_canAllBeSold_B1 o S a1) x_126 = Sum.inr ((0 : Int32)) := by
  replace h0 := Eq.symm h0
  subst h0
  replace h1 := Eq.symm h1
  subst h1
  replace h3 := Eq.symm h3
  subst h3
  replace h4 := Eq.symm h4
  subst h4
  replace h6 := Eq.symm h6
  subst h6
  exact (Eq.trans (if_neg h2) (Eq.trans (if_neg h5) (Eq.trans (if_pos h7) rfl)))
theorem F_d_canAllBeSold_p3 {o : Nat} {S : dg_S} {a1 : Int32} {x_126 : Int32} {d_128 : Nat} {x_129 : Int32} {x_132 : Int32} {x_133 : Int32} {x_156 : Int32} {x_158 : Int32} {x_161 : Int32} {x_163 : Int32} (h0 : d_128 = zR o S 0 6) (h1 : x_129 = zI S d_128 11) (h2 : ¬ (x_129 ≤ x_126)) (h3 : x_132 = a1 >>> (x_126 &&& 31)) (h4 : x_133 = x_132 &&& (1 : Int32)) (h5 : ¬ (x_133 = (0 : Int32))) (h6 : x_156 = S.2.1 (d_128 + 6) (x_126 : Int32).toNatClampNeg) (h7 : x_158 = S.2.1 8 (x_126 : Int32).toNatClampNeg) (h8 : ¬ (x_158 = (1 : Int32))) (h9 : x_161 = F_d_wantedFrom o S a1 x_156) (h10 : x_163 = F_p_tubsFrom o S 3 x_156) (h11 : x_161 ≤ x_163) : (F_d_canAllBeSold_B1 o S a1) x_126 = F_d_canAllBeSold_J2 x_126 := by
  replace h0 := Eq.symm h0
  subst h0
  replace h1 := Eq.symm h1
  subst h1
  replace h3 := Eq.symm h3
  subst h3
  replace h4 := Eq.symm h4
  subst h4
  replace h6 := Eq.symm h6
  subst h6
  replace h7 := Eq.symm h7
  subst h7
  replace h9 := Eq.symm h9
  subst h9
  replace h10 := Eq.symm h10
  subst h10
  exact (Eq.trans (if_neg h2) (Eq.trans (if_neg h5) (Eq.trans (if_neg h8) (Eq.trans (if_pos h11) rfl))))
theorem F_d_canAllBeSold_p4 {o : Nat} {S : dg_S} {a1 : Int32} {x_126 : Int32} {d_128 : Nat} {x_129 : Int32} {x_132 : Int32} {x_133 : Int32} {x_156 : Int32} {x_158 : Int32} {x_161 : Int32} {x_163 : Int32} (h0 : d_128 = zR o S 0 6) (h1 : x_129 = zI S d_128 11) (h2 : ¬ (x_129 ≤ x_126)) (h3 : x_132 = a1 >>> (x_126 &&& 31)) (h4 : x_133 = x_132 &&& (1 : Int32)) (h5 : ¬ (x_133 = (0 : Int32))) (h6 : x_156 = S.2.1 (d_128 + 6) (x_126 : Int32).toNatClampNeg) (h7 : x_158 = S.2.1 8 (x_126 : Int32).toNatClampNeg) (h8 : ¬ (x_158 = (1 : Int32))) (h9 : x_161 = F_d_wantedFrom o S a1 x_156) (h10 : x_163 = F_p_tubsFrom o S 3 x_156) (h11 : ¬ (x_161 ≤ x_163)) : (F_d_canAllBeSold_B1 o S a1) x_126 = Sum.inr ((0 : Int32)) := by
  replace h0 := Eq.symm h0
  subst h0
  replace h1 := Eq.symm h1
  subst h1
  replace h3 := Eq.symm h3
  subst h3
  replace h4 := Eq.symm h4
  subst h4
  replace h6 := Eq.symm h6
  subst h6
  replace h7 := Eq.symm h7
  subst h7
  replace h9 := Eq.symm h9
  subst h9
  replace h10 := Eq.symm h10
  subst h10
  exact (Eq.trans (if_neg h2) (Eq.trans (if_neg h5) (Eq.trans (if_neg h8) (Eq.trans (if_neg h11) rfl))))
theorem F_d_canAllBeSold_p5 {o : Nat} {S : dg_S} {a1 : Int32} {x_126 : Int32} {d_128 : Nat} {x_129 : Int32} {x_132 : Int32} {x_133 : Int32} (h0 : d_128 = zR o S 0 6) (h1 : x_129 = zI S d_128 11) (h2 : ¬ (x_129 ≤ x_126)) (h3 : x_132 = a1 >>> (x_126 &&& 31)) (h4 : x_133 = x_132 &&& (1 : Int32)) (h5 : x_133 = (0 : Int32)) : (F_d_canAllBeSold_B1 o S a1) x_126 = F_d_canAllBeSold_J2 x_126 := by
  replace h0 := Eq.symm h0
  subst h0
  replace h1 := Eq.symm h1
  subst h1
  replace h3 := Eq.symm h3
  subst h3
  replace h4 := Eq.symm h4
  subst h4
  exact (Eq.trans (if_neg h2) (Eq.trans (if_pos h5) rfl))
theorem F_d_canAllBeSold_p6 {o : Nat} {S : dg_S} {a1 : Int32}  : F_d_canAllBeSold o S a1 = lp (F_d_canAllBeSold_B1 o S a1) (0 : Int32) ((6 - ((0 : Int32)).toInt).toNat + 1) (0 : Int32) := rfl
set_option maxHeartbeats 8000000 in
set_option maxRecDepth 100000 in
theorem c_d_canAllBeSold (l : Launch) (g : Nat → ClassId) (D : va_G) (o : Nat) (S : dg_S) (a1 : Int32) (Z1 : Z1X S) (Z2 : Z2X S) (Z3 : Z3X o S) (Z4 : Z4X S) (Z6 : Z6X S) (I : CX o S) (sz : Nat) : Met l yX11_canAllBeSold (bw yX11_canAllBeSold cX11_canAllBeSold 4 (some .boolean)) ({ frames := 2, cells := 0, slots := 0, locals := 56 } : Room) (dk_Pc g D (dg_w g shX o rfX S) sz [.ref (o + 0), .int a1]) (va_Qi (fun (r : Int32) S' => S' = S ∧ (0 ≤ (r).toInt ∧ (r).toInt ≤ 1) ∧ (r = F_d_canAllBeSold o S a1) ∧ True) (dg_B g D shX o rfX) (dg_A o shX.length sz)) 0 0 (dg_A o shX.length sz) := by
  refine dg_met (cc := cX11_canAllBeSold) (maxL := 4) (ret := (some .boolean)) (dk_dq rfl) rfl (Nat.le_of_ble_eq_true rfl) ?_
  intro p e s m args below meth c A hAe harg hx hb hr hml hts hown hlocks hin hP K hS hA1 hA ST hsz ls hl
  rw [← hAe]
  have F : CallFix p m c cX11_canAllBeSold 4 s args (bw yX11_canAllBeSold cX11_canAllBeSold 4 (some .boolean)) RX11 := ⟨hx, hb, hml, hown, hts⟩
  have hl : lv_has ls 4 [(0, .ref (o + 0)), (1, .int a1)] := hl
  have M_0 : dg_sm shX [] [] S S := dg_sm.rf
  refine lv_iconst (v := 0) hx hb dX11_canAllBeSold_0 (by decide +kernel) ?_
  refine lv_istore_n (lv' := [(2, .int 0), (0, .ref (o + 0)), (1, .int a1)]) hx hb dX11_canAllBeSold_1 rfl hl (dk_dq rfl) rfl (fun ls hl => ?_)
  have L_127 : ∀ (n : Nat) (x_126 : Int32), (0 ≤ (x_126).toInt ∧ (x_126).toInt ≤ 5) → ((6 - (x_126).toInt).toNat < n) → (F_d_canAllBeSold o S a1 = lp (F_d_canAllBeSold_B1 o S a1) (0 : Int32) n x_126) → ∀ (H : Heap) (locs : List Loc), va_P D vwCl (dg_w g shX o rfX S) H → va_S A s.heap H locs → ∀ ls : Array Slot, lv_has ls 4 [(2, .int x_126), (0, .ref (o + 0)), (1, .int a1)] → W p l e ({ frames := 2, cells := 0, slots := 0, locals := 56 } : Room) s m args below meth c H locs 0 0 (MQ below (va_Qi (fun (r : Int32) S' => S' = S ∧ (0 ≤ (r).toInt ∧ (r).toInt ≤ 1) ∧ (r = F_d_canAllBeSold o S a1) ∧ True) (dg_B g D shX o rfX) A) args s 0 0 A) (F0 m 2 ls []) := by
    as_aux_lemma =>
      intro n
      induction n with
      | zero =>
        intro x_126 b_x_126 hmu hF_1 H locs hP hS ls hl
        omega
      | succ n ih =>
        as_aux_lemma =>
          intro x_126 b_x_126 hmu hF_1 H locs hP hS ls hl
          refine lv_iload_n hx hb dX11_canAllBeSold_2 rfl (lv_at hl 0 rfl) ?_
          refine lv_aload_n hx hb dX11_canAllBeSold_3 rfl (lv_at hl 1 rfl) ?_
          obtain ⟨d_128, hk_d_128, f_d_128⟩ := dg_I.one (i := 0) (k := 6) (d := 0) I sX_0 (by decide +kernel)
          have hk_d_128 : rX d_128 := hk_d_128
          refine dg_get (C := RX11) (T := TX11) (N := 13) hx hb hts (fun w h => bw_mem (wU_X11 w h)) hown K hP sX_0 rfl 6 (dk_dq rfl) (hts _ (bw_mem wB_286)) (fun _ h9 => h9) (v := .ref (o + d_128)) f_d_128 dX11_canAllBeSold_4 ?_
          obtain ⟨x_129, f_x_129, b_x_129⟩ := dg_I.int (i := d_128) (k := 11) (lo := 0) (hi := 5) I (rX_0 d_128 hk_d_128) (by decide +kernel)
          refine dg_get (C := RX2) (T := TX2) (N := 19) hx hb hts (fun w h => bw_mem (wU_X2 w h)) hown K hP (rX_0 d_128 hk_d_128) rfl 11 (dk_dq rfl) (hts _ (bw_mem wB_900)) (fun _ h9 => h9) (v := .int x_129) f_x_129 dX11_canAllBeSold_7 ?_
          refine lv_icmp_ge (tgt := 72) hx hb dX11_canAllBeSold_10 (dk_dq rfl) (fun c_130 => ?_) (fun c_130 => ?_)
          · have jc_130 := dk_gec (k := (x_129).toInt) rfl c_130
            refine lv_iconst (v := 1) hx hb dX11_canAllBeSold_72 (by decide +kernel) ?_
            have hz_131 : (1 : Int32).toInt = 1 := by decide +kernel
            refine W.widen (k := 0) (n := 0) (Nat.le_of_ble_eq_true rfl) (Nat.le_of_ble_eq_true rfl) ?_
            exact dg_iret hx hb hr hlocks (by decide +kernel) hP hS ⟨rfl, (by decide +kernel), (Eq.symm (lp_r hF_1 (F_d_canAllBeSold_p0 (zR_eq f_d_128) (zI_eq f_x_129) c_130))), trivial⟩ dX11_canAllBeSold_73
          · as_aux_lemma =>
              have jc_130 := dk_ngec (k := (x_129).toInt) rfl c_130
              refine lv_iload_n hx hb dX11_canAllBeSold_13 rfl (lv_at hl 2 rfl) ?_
              refine lv_iload_n hx hb dX11_canAllBeSold_14 rfl (lv_at hl 0 rfl) ?_
              refine lv_ishr hx hb dX11_canAllBeSold_15 ?_
              refine lv_topi (fun x_132 ex_132 => ?_)
              refine lv_iconst (v := 1) hx hb dX11_canAllBeSold_16 (by decide +kernel) ?_
              refine lv_iand hx hb dX11_canAllBeSold_17 ?_
              refine lv_topi (fun x_133 ex_133 => ?_)
              have J_152 : ((F_d_canAllBeSold_B1 o S a1) x_126 = F_d_canAllBeSold_J2 x_126) → ∀ (H : Heap) (locs : List Loc), va_P D vwCl (dg_w g shX o rfX S) H → va_S A s.heap H locs → ∀ ls : Array Slot, lv_has ls 4 [(2, .int x_126), (0, .ref (o + 0)), (1, .int a1)] → W p l e ({ frames := 2, cells := 0, slots := 0, locals := 56 } : Room) s m args below meth c H locs 0 0 (MQ below (va_Qi (fun (r : Int32) S' => S' = S ∧ (0 ≤ (r).toInt ∧ (r).toInt ≤ 1) ∧ (r = F_d_canAllBeSold o S a1) ∧ True) (dg_B g D shX o rfX) A) args s 0 0 A) (F0 m 66 ls []) := by
                intro hF_2 H locs hP hS ls hl
                obtain ⟨x_153, ex_153⟩ : ∃ z, z = x_126 + 1 := ⟨_, rfl⟩
                have jx_153 : (x_153).toInt = (x_126).toInt + 1 := by rw [ex_153]; exact dk_addT2 rfl (by decide +kernel) (by omega)
                refine lv_iinc (v := x_153) (lv' := [(2, .int x_153), (0, .ref (o + 0)), (1, .int a1)]) hx hb dX11_canAllBeSold_66 hl (k := 0) rfl (by rw [ex_153]; rfl) (dk_dq rfl) rfl (fun ls hl => ?_)
                refine lv_goto (tgt := 2) hx hb dX11_canAllBeSold_69 (dk_dq rfl) ?_
                exact ih x_153 (by omega) (by first | exact mu_lt hmu (by omega) (by omega) | omega) (lp_l hF_1 (Eq.trans hF_2 (F_d_canAllBeSold_p1 ex_153))) _ _ hP hS _ (lv_sub hl [0, 1, 2] rfl)
              refine lv_if_ne (tgt := 24) hx hb dX11_canAllBeSold_18 (dk_dq rfl) (fun c_154 => ?_) (fun c_154 => ?_)
              · as_aux_lemma =>
                  have jc_154 := dk_neqc (k := 0) (by decide +kernel) c_154
                  refine lv_aload_n hx hb dX11_canAllBeSold_24 rfl (lv_at hl 1 rfl) ?_
                  refine dg_get (C := RX11) (T := TX11) (N := 13) hx hb hts (fun w h => bw_mem (wU_X11 w h)) hown K hP sX_0 rfl 6 (dk_dq rfl) (hts _ (bw_mem wB_286)) (fun _ h9 => h9) (v := .ref (o + d_128)) f_d_128 dX11_canAllBeSold_25 ?_
                  refine dg_get (C := RX2) (T := TX2) (N := 19) hx hb hts (fun w h => bw_mem (wU_X2 w h)) hown K hP (rX_0 d_128 hk_d_128) rfl 13 (dk_dq rfl) (hts _ (bw_mem wB_894)) (fun _ h9 => h9) (v := .ref (o + (d_128 + 6))) (show S.1 d_128 13 = .ref (o + (d_128 + 6)) from dg_I.rel (d := 6) I (rX_0 d_128 hk_d_128) (by decide +kernel)) dX11_canAllBeSold_28 ?_
                  refine lv_iload_n hx hb dX11_canAllBeSold_31 rfl (lv_at hl 0 rfl) ?_
                  have hin_155 : vp_in x_126 5 := (dk_inv2 (by omega))
                  refine dg_iald hx hb K hP (rX_6 d_128 hk_d_128) hin_155 dX11_canAllBeSold_32 (fun x_156 ex_156 => ?_)
                  have b_x_156 := dk_all_at (dg_I.row (lo := 0) (hi := 9) I (rX_6 d_128 hk_d_128) (by decide +kernel)) hin_155 ex_156
                  refine lv_istore_n (lv' := [(3, .int x_156), (2, .int x_126), (0, .ref (o + 0)), (1, .int a1)]) hx hb dX11_canAllBeSold_33 rfl hl (dk_dq rfl) rfl (fun ls hl => ?_)
                  refine lv_aload_n hx hb dX11_canAllBeSold_34 rfl (lv_at hl 2 rfl) ?_
                  refine dg_get (C := RX11) (T := TX11) (N := 13) hx hb hts (fun w h => bw_mem (wU_X11 w h)) hown K hP sX_0 rfl 1 (dk_dq rfl) (hts _ (bw_mem wB_287)) (fun _ h9 => h9) (v := .ref (o + 3)) (show S.1 0 1 = .ref (o + 3) from dg_I.rel (d := 3) I sX_0 (by decide +kernel)) dX11_canAllBeSold_35 ?_
                  refine dg_get (C := RX5) (T := TX5) (N := 8) hx hb hts (fun w h => bw_mem (wU_X5 w h)) hown K hP (pX_0 3 (dk_dq rfl)) rfl 6 (dk_dq rfl) (hts _ (bw_mem wB_893)) (fun _ h9 => h9) (v := .ref (o + 8)) (show S.1 3 6 = .ref (o + 8) from dg_I.rel (d := 5) I (pX_0 3 (dk_dq rfl)) (by decide +kernel)) dX11_canAllBeSold_38 ?_
                  refine lv_iload_n hx hb dX11_canAllBeSold_41 rfl (lv_at hl 1 rfl) ?_
                  have hin_157 : vp_in x_126 5 := (dk_inv2 (by omega))
                  refine dg_iald hx hb K hP (pX_5 3 (dk_dq rfl)) hin_157 dX11_canAllBeSold_42 (fun x_158 ex_158 => ?_)
                  refine lv_iconst (v := 1) hx hb dX11_canAllBeSold_43 (by decide +kernel) ?_
                  refine lv_icmp_eq (tgt := 64) hx hb dX11_canAllBeSold_44 (dk_dq rfl) (fun c_159 => ?_) (fun c_159 => ?_)
                  · have jc_159 := dk_eqc (k := 1) (by decide +kernel) c_159
                    refine lv_iconst (v := 0) hx hb dX11_canAllBeSold_64 (by decide +kernel) ?_
                    have hz_160 : (0 : Int32).toInt = 0 := by decide +kernel
                    refine W.widen (k := 0) (n := 0) (Nat.le_of_ble_eq_true rfl) (Nat.le_of_ble_eq_true rfl) ?_
                    exact dg_iret hx hb hr hlocks (by decide +kernel) hP hS ⟨rfl, (by decide +kernel), (Eq.symm (lp_r hF_1 (F_d_canAllBeSold_p2 (zR_eq f_d_128) (zI_eq f_x_129) c_130 ex_132 ex_133 c_154 (Eq.symm ex_158.symm) c_159))), trivial⟩ dX11_canAllBeSold_65
                  · as_aux_lemma =>
                      have jc_159 := dk_neqc (k := 1) (by decide +kernel) c_159
                      refine lv_aload_n hx hb dX11_canAllBeSold_47 rfl (lv_at hl 2 rfl) ?_
                      refine lv_iload_n hx hb dX11_canAllBeSold_48 rfl (lv_at hl 3 rfl) ?_
                      refine lv_iload_n hx hb dX11_canAllBeSold_49 rfl (lv_at hl 0 rfl) ?_
                      refine dg_calli hS hA1 hA (va_runV (As := [.int a1, .int x_156]) (rest := []) F (c_d_wantedFrom l g D o S a1 x_156 Z1 Z2 Z3 Z4 Z6 I H.size) (cwV 2 hts (bw_V wB_903 wB_904 wB_905 wB_610 wB_902) rfl rfl rfl (by decide +kernel) ⟨Nat.le_of_ble_eq_true rfl, Nat.le_of_ble_eq_true rfl⟩) (dg_preV sX_0 rfl K ST hP hS hA1 hA) rfl rfl hl.1 rfl (lv_room (Nat.le_of_ble_eq_true rfl)) dX11_canAllBeSold_50 ⟨Nat.le_of_ble_eq_true rfl, Nat.le_of_ble_eq_true rfl⟩) (fun x_161 S_162 hw_162 H locs hP hS => ?_)
                      rw [hw_162.1] at hP
                      obtain ⟨hq_162, w_162_0, -⟩ := hw_162
                      refine lv_aload_n hx hb dX11_canAllBeSold_53 rfl (lv_at hl 2 rfl) ?_
                      refine dg_get (C := RX11) (T := TX11) (N := 13) hx hb hts (fun w h => bw_mem (wU_X11 w h)) hown K hP sX_0 rfl 1 (dk_dq rfl) (hts _ (bw_mem wB_287)) (fun _ h9 => h9) (v := .ref (o + 3)) (show S.1 0 1 = .ref (o + 3) from dg_I.rel (d := 3) I sX_0 (by decide +kernel)) dX11_canAllBeSold_54 ?_
                      refine lv_iload_n hx hb dX11_canAllBeSold_57 rfl (lv_at hl 0 rfl) ?_
                      refine dg_calli hS hA1 hA (va_runV (As := [.int x_156]) (rest := [.int x_161]) F (c_p_tubsFrom l g D o S 3 (by unfold pX; decide : pX 3) x_156 (by omega) I H.size) (cwV 1 hts (bw_V wB_896 wB_897 wB_898 wB_493 wB_895) rfl rfl rfl (by decide +kernel) ⟨Nat.le_of_ble_eq_true rfl, Nat.le_of_ble_eq_true rfl⟩) (dg_preV (pX_0 3 (dk_dq rfl)) rfl K ST hP hS hA1 hA) rfl rfl hl.1 rfl (lv_room (Nat.le_of_ble_eq_true rfl)) dX11_canAllBeSold_58 ⟨Nat.le_of_ble_eq_true rfl, Nat.le_of_ble_eq_true rfl⟩) (fun x_163 S_164 hw_164 H locs hP hS => ?_)
                      rw [hw_164.1] at hP
                      obtain ⟨hq_164, w_164_0, -⟩ := hw_164
                      refine lv_icmp_le (tgt := 66) hx hb dX11_canAllBeSold_61 (dk_dq rfl) (fun c_165 => ?_) (fun c_165 => ?_)
                      · have hf_165 := dk_full x_161
                        have hf_166 := dk_full x_163
                        have jc_165 := dk_lec (k := (x_163).toInt) rfl c_165
                        exact J_152   (F_d_canAllBeSold_p3 (zR_eq f_d_128) (zI_eq f_x_129) c_130 ex_132 ex_133 c_154 (Eq.symm ex_156.symm) (Eq.symm ex_158.symm) c_159 w_162_0 w_164_0 c_165) _ _ hP hS _ (lv_sub hl [1, 2, 3] rfl)
                      · have hf_167 := dk_full x_161
                        have hf_168 := dk_full x_163
                        have jc_165 := dk_nlec (k := (x_163).toInt) rfl c_165
                        refine lv_iconst (v := 0) hx hb dX11_canAllBeSold_64 (by decide +kernel) ?_
                        have hz_170 : (0 : Int32).toInt = 0 := by decide +kernel
                        refine W.widen (k := 0) (n := 0) (Nat.le_of_ble_eq_true rfl) (Nat.le_of_ble_eq_true rfl) ?_
                        exact dg_iret hx hb hr hlocks (by decide +kernel) hP hS ⟨rfl, (by decide +kernel), (Eq.symm (lp_r hF_1 (F_d_canAllBeSold_p4 (zR_eq f_d_128) (zI_eq f_x_129) c_130 ex_132 ex_133 c_154 (Eq.symm ex_156.symm) (Eq.symm ex_158.symm) c_159 w_162_0 w_164_0 c_165))), trivial⟩ dX11_canAllBeSold_65
              · have jc_154 := dk_eqc (k := 0) (by decide +kernel) c_154
                refine lv_goto (tgt := 66) hx hb dX11_canAllBeSold_21 (dk_dq rfl) ?_
                exact J_152   (F_d_canAllBeSold_p5 (zR_eq f_d_128) (zI_eq f_x_129) c_130 ex_132 ex_133 c_154) _ _ hP hS _ (lv_sub hl [0, 1, 2] rfl)
  have hz_171 : (0 : Int32).toInt = 0 := by decide +kernel
  have hz_172 : (0 : Int32).toInt = 0 := by decide +kernel
  exact L_127 ((6 - ((0 : Int32)).toInt).toNat + 1) 0 (by decide +kernel) (by first | exact mu_lt hmu (by omega) (by omega) | omega) (F_d_canAllBeSold_p6) _ _ hP hS _ (lv_sub hl [0, 1, 2] rfl)
noncomputable def F_d_isBetterSale (o : Nat) (S : dg_S) (a1 : Int32) (a2 : Int32) : Int32 := let x_1 : Int32 := F_d_paidFor o S a1; let x_3 : Int32 := F_d_paidFor o S a2; let x_5 : Int32 := x_1 - x_3; (if (0 : Int32) < x_5 then (1 : Int32) else (if x_5 = (0 : Int32) then let x_10 : Int32 := F_bitCount o S a1; let x_12 : Int32 := F_bitCount o S a2; (if x_12 ≤ x_10 then (0 : Int32) else (1 : Int32)) else (0 : Int32)))
theorem F_d_isBetterSale_p0 {o : Nat} {S : dg_S} {a1 : Int32} {a2 : Int32} {x_1 : Int32} {x_3 : Int32} {x_5 : Int32} (h0 : x_1 = F_d_paidFor o S a1) (h1 : x_3 = F_d_paidFor o S a2) (h2 : x_5 = x_1 - x_3) (h3 : (0 : Int32) < x_5) : F_d_isBetterSale o S a1 a2 = (1 : Int32) := by
  replace h0 := Eq.symm h0
  subst h0
  replace h1 := Eq.symm h1
  subst h1
  replace h2 := Eq.symm h2
  subst h2
  exact (Eq.trans (if_pos h3) rfl)
theorem F_d_isBetterSale_p1 {o : Nat} {S : dg_S} {a1 : Int32} {a2 : Int32} {x_1 : Int32} {x_3 : Int32} {x_5 : Int32} (h0 : x_1 = F_d_paidFor o S a1) (h1 : x_3 = F_d_paidFor o S a2) (h2 : x_5 = x_1 - x_3) (h3 : ¬ ((0 : Int32) < x_5)) (h4 : ¬ (x_5 = (0 : Int32))) : F_d_isBetterSale o S a1 a2 = (0 : Int32) := by
  replace h0 := Eq.symm h0
  subst h0
  replace h1 := Eq.symm h1
  subst h1
  replace h2 := Eq.symm h2
  subst h2
  exact (Eq.trans (if_neg h3) (Eq.trans (if_neg h4) rfl))
theorem F_d_isBetterSale_p2 {o : Nat} {S : dg_S} {a1 : Int32} {a2 : Int32} {x_1 : Int32} {x_3 : Int32} {x_5 : Int32} {x_10 : Int32} {x_12 : Int32} (h0 : x_1 = F_d_paidFor o S a1) (h1 : x_3 = F_d_paidFor o S a2) (h2 : x_5 = x_1 - x_3) (h3 : ¬ ((0 : Int32) < x_5)) (h4 : x_5 = (0 : Int32)) (h5 : x_10 = F_bitCount o S a1) (h6 : x_12 = F_bitCount o S a2) (h7 : x_12 ≤ x_10) : F_d_isBetterSale o S a1 a2 = (0 : Int32) := by
  replace h0 := Eq.symm h0
  subst h0
  replace h1 := Eq.symm h1
  subst h1
  replace h2 := Eq.symm h2
  subst h2
  replace h5 := Eq.symm h5
  subst h5
  replace h6 := Eq.symm h6
  subst h6
  exact (Eq.trans (if_neg h3) (Eq.trans (if_pos h4) (Eq.trans (if_pos h7) rfl)))
theorem F_d_isBetterSale_p3 {o : Nat} {S : dg_S} {a1 : Int32} {a2 : Int32} {x_1 : Int32} {x_3 : Int32} {x_5 : Int32} {x_10 : Int32} {x_12 : Int32} (h0 : x_1 = F_d_paidFor o S a1) (h1 : x_3 = F_d_paidFor o S a2) (h2 : x_5 = x_1 - x_3) (h3 : ¬ ((0 : Int32) < x_5)) (h4 : x_5 = (0 : Int32)) (h5 : x_10 = F_bitCount o S a1) (h6 : x_12 = F_bitCount o S a2) (h7 : ¬ (x_12 ≤ x_10)) : F_d_isBetterSale o S a1 a2 = (1 : Int32) := by
  replace h0 := Eq.symm h0
  subst h0
  replace h1 := Eq.symm h1
  subst h1
  replace h2 := Eq.symm h2
  subst h2
  replace h5 := Eq.symm h5
  subst h5
  replace h6 := Eq.symm h6
  subst h6
  exact (Eq.trans (if_neg h3) (Eq.trans (if_pos h4) (Eq.trans (if_neg h7) rfl)))
set_option maxHeartbeats 8000000 in
set_option maxRecDepth 100000 in
theorem c_d_isBetterSale (l : Launch) (g : Nat → ClassId) (D : va_G) (o : Nat) (S : dg_S) (a1 : Int32) (a2 : Int32) (Z1 : Z1X S) (Z2 : Z2X S) (Z3 : Z3X o S) (Z4 : Z4X S) (Z6 : Z6X S) (I : CX o S) (sz : Nat) : Met l yX11_isBetterSale (bw yX11_isBetterSale cX11_isBetterSale 4 (some .boolean)) ({ frames := 2, cells := 0, slots := 0, locals := 55 } : Room) (dk_Pc g D (dg_w g shX o rfX S) sz [.ref (o + 0), .int a1, .int a2]) (va_Qi (fun (r : Int32) S' => S' = S ∧ (0 ≤ (r).toInt ∧ (r).toInt ≤ 1) ∧ (r = F_d_isBetterSale o S a1 a2) ∧ True) (dg_B g D shX o rfX) (dg_A o shX.length sz)) 0 0 (dg_A o shX.length sz) := by
  refine dg_met (cc := cX11_isBetterSale) (maxL := 4) (ret := (some .boolean)) (dk_dq rfl) rfl (Nat.le_of_ble_eq_true rfl) ?_
  intro p e s m args below meth c A hAe harg hx hb hr hml hts hown hlocks hin hP K hS hA1 hA ST hsz ls hl
  rw [← hAe]
  have F : CallFix p m c cX11_isBetterSale 4 s args (bw yX11_isBetterSale cX11_isBetterSale 4 (some .boolean)) RX11 := ⟨hx, hb, hml, hown, hts⟩
  have hl : lv_has ls 4 [(0, .ref (o + 0)), (1, .int a1), (2, .int a2)] := hl
  have M_0 : dg_sm shX [] [] S S := dg_sm.rf
  refine lv_aload_n hx hb dX11_isBetterSale_0 rfl (lv_at hl 0 rfl) ?_
  refine lv_iload_n hx hb dX11_isBetterSale_1 rfl (lv_at hl 1 rfl) ?_
  refine dg_calli hS hA1 hA (va_runV (As := [.int a1]) (rest := []) F (c_d_paidFor l g D o S a1 Z1 Z2 Z3 Z4 Z6 I s.heap.size) (cwV 1 hts (bw_V wB_907 wB_908 wB_909 wB_610 wB_906) rfl rfl rfl (by decide +kernel) ⟨Nat.le_of_ble_eq_true rfl, Nat.le_of_ble_eq_true rfl⟩) (dg_preV sX_0 rfl K ST hP hS hA1 hA) rfl rfl hl.1 rfl (lv_room (Nat.le_of_ble_eq_true rfl)) dX11_isBetterSale_2 ⟨Nat.le_of_ble_eq_true rfl, Nat.le_of_ble_eq_true rfl⟩) (fun x_1 S_2 hw_2 H locs hP hS => ?_)
  rw [hw_2.1] at hP
  obtain ⟨hq_2, w_2_0, -⟩ := hw_2
  refine lv_aload_n hx hb dX11_isBetterSale_5 rfl (lv_at hl 0 rfl) ?_
  refine lv_iload_n hx hb dX11_isBetterSale_6 rfl (lv_at hl 2 rfl) ?_
  refine dg_calli hS hA1 hA (va_runV (As := [.int a2]) (rest := [.int x_1]) F (c_d_paidFor l g D o S a2 Z1 Z2 Z3 Z4 Z6 I H.size) (cwV 1 hts (bw_V wB_907 wB_908 wB_909 wB_610 wB_906) rfl rfl rfl (by decide +kernel) ⟨Nat.le_of_ble_eq_true rfl, Nat.le_of_ble_eq_true rfl⟩) (dg_preV sX_0 rfl K ST hP hS hA1 hA) rfl rfl hl.1 rfl (lv_room (Nat.le_of_ble_eq_true rfl)) dX11_isBetterSale_7 ⟨Nat.le_of_ble_eq_true rfl, Nat.le_of_ble_eq_true rfl⟩) (fun x_3 S_4 hw_4 H locs hP hS => ?_)
  rw [hw_4.1] at hP
  obtain ⟨hq_4, w_4_0, -⟩ := hw_4
  refine lv_isub hx hb dX11_isBetterSale_10 ?_
  refine lv_topi (fun x_5 ex_5 => ?_)
  refine lv_istore_n (lv' := [(3, .int x_5), (0, .ref (o + 0)), (1, .int a1), (2, .int a2)]) hx hb dX11_isBetterSale_11 rfl hl (dk_dq rfl) rfl (fun ls hl => ?_)
  refine lv_iload_n hx hb dX11_isBetterSale_12 rfl (lv_at hl 0 rfl) ?_
  refine lv_if_gt (tgt := 31) hx hb dX11_isBetterSale_13 (dk_dq rfl) (fun c_6 => ?_) (fun c_6 => ?_)
  · have jc_6 := dk_gtc (k := 0) (by decide +kernel) c_6
    refine lv_iconst (v := 1) hx hb dX11_isBetterSale_31 (by decide +kernel) ?_
    refine lv_goto (tgt := 36) hx hb dX11_isBetterSale_32 (dk_dq rfl) ?_
    have hz_7 : (1 : Int32).toInt = 1 := by decide +kernel
    refine W.widen (k := 0) (n := 0) (Nat.le_of_ble_eq_true rfl) (Nat.le_of_ble_eq_true rfl) ?_
    exact dg_iret hx hb hr hlocks (by decide +kernel) hP hS ⟨rfl, (by decide +kernel), (Eq.symm (F_d_isBetterSale_p0 w_2_0 w_4_0 ex_5 c_6)), trivial⟩ dX11_isBetterSale_36
  · as_aux_lemma =>
      have jc_6 := dk_ngtc (k := 0) (by decide +kernel) c_6
      refine lv_iload_n hx hb dX11_isBetterSale_16 rfl (lv_at hl 0 rfl) ?_
      refine lv_if_ne (tgt := 35) hx hb dX11_isBetterSale_17 (dk_dq rfl) (fun c_8 => ?_) (fun c_8 => ?_)
      · have jc_8 := dk_neqc (k := 0) (by decide +kernel) c_8
        refine lv_iconst (v := 0) hx hb dX11_isBetterSale_35 (by decide +kernel) ?_
        have hz_9 : (0 : Int32).toInt = 0 := by decide +kernel
        refine W.widen (k := 0) (n := 0) (Nat.le_of_ble_eq_true rfl) (Nat.le_of_ble_eq_true rfl) ?_
        exact dg_iret hx hb hr hlocks (by decide +kernel) hP hS ⟨rfl, (by decide +kernel), (Eq.symm (F_d_isBetterSale_p1 w_2_0 w_4_0 ex_5 c_6 c_8)), trivial⟩ dX11_isBetterSale_36
      · as_aux_lemma =>
          have jc_8 := dk_eqc (k := 0) (by decide +kernel) c_8
          refine lv_iload_n hx hb dX11_isBetterSale_20 rfl (lv_at hl 2 rfl) ?_
          refine dg_calli hS hA1 hA (va_runS (As := [.int a1]) (rest := []) F (c_bitCount l g D o S a1 I H.size) (va_cwS 1 hts (bw_S wB_911 wB_912 wB_913 wB_910) rfl rfl rfl (by decide +kernel) ⟨Nat.le_of_ble_eq_true rfl, Nat.le_of_ble_eq_true rfl⟩) (dg_preS K ST hP hS hA1 hA) rfl rfl hl.1 rfl (lv_room (Nat.le_of_ble_eq_true rfl)) dX11_isBetterSale_21 ⟨Nat.le_of_ble_eq_true rfl, Nat.le_of_ble_eq_true rfl⟩) (fun x_10 S_11 hw_11 H locs hP hS => ?_)
          rw [hw_11.1] at hP
          obtain ⟨hq_11, w_11_0, -⟩ := hw_11
          refine lv_iload_n hx hb dX11_isBetterSale_24 rfl (lv_at hl 3 rfl) ?_
          refine dg_calli hS hA1 hA (va_runS (As := [.int a2]) (rest := [.int x_10]) F (c_bitCount l g D o S a2 I H.size) (va_cwS 1 hts (bw_S wB_911 wB_912 wB_913 wB_910) rfl rfl rfl (by decide +kernel) ⟨Nat.le_of_ble_eq_true rfl, Nat.le_of_ble_eq_true rfl⟩) (dg_preS K ST hP hS hA1 hA) rfl rfl hl.1 rfl (lv_room (Nat.le_of_ble_eq_true rfl)) dX11_isBetterSale_25 ⟨Nat.le_of_ble_eq_true rfl, Nat.le_of_ble_eq_true rfl⟩) (fun x_12 S_13 hw_13 H locs hP hS => ?_)
          rw [hw_13.1] at hP
          obtain ⟨hq_13, w_13_0, -⟩ := hw_13
          refine lv_icmp_ge (tgt := 35) hx hb dX11_isBetterSale_28 (dk_dq rfl) (fun c_14 => ?_) (fun c_14 => ?_)
          · have hf_14 := dk_full x_10
            have hf_15 := dk_full x_12
            have jc_14 := dk_gec (k := (x_12).toInt) rfl c_14
            refine lv_iconst (v := 0) hx hb dX11_isBetterSale_35 (by decide +kernel) ?_
            have hz_17 : (0 : Int32).toInt = 0 := by decide +kernel
            refine W.widen (k := 0) (n := 0) (Nat.le_of_ble_eq_true rfl) (Nat.le_of_ble_eq_true rfl) ?_
            exact dg_iret hx hb hr hlocks (by decide +kernel) hP hS ⟨rfl, (by decide +kernel), (Eq.symm (F_d_isBetterSale_p2 w_2_0 w_4_0 ex_5 c_6 c_8 w_11_0 w_13_0 c_14)), trivial⟩ dX11_isBetterSale_36
          · have hf_17 := dk_full x_10
            have hf_18 := dk_full x_12
            have jc_14 := dk_ngec (k := (x_12).toInt) rfl c_14
            refine lv_iconst (v := 1) hx hb dX11_isBetterSale_31 (by decide +kernel) ?_
            refine lv_goto (tgt := 36) hx hb dX11_isBetterSale_32 (dk_dq rfl) ?_
            have hz_20 : (1 : Int32).toInt = 1 := by decide +kernel
            refine W.widen (k := 0) (n := 0) (Nat.le_of_ble_eq_true rfl) (Nat.le_of_ble_eq_true rfl) ?_
            exact dg_iret hx hb hr hlocks (by decide +kernel) hP hS ⟨rfl, (by decide +kernel), (Eq.symm (F_d_isBetterSale_p3 w_2_0 w_4_0 ex_5 c_6 c_8 w_11_0 w_13_0 c_14)), trivial⟩ dX11_isBetterSale_36
    