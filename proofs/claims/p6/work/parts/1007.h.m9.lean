/-! the shape of the reference's region -/
def shM : List dg_q := [(0, 12, 77, 0), (1, 0, 1800, 1), (1, 0, 2, 2), (1, 0, 2, 3), (1, 0, 2, 4), (1, 0, 2, 5), (1, 0, 2, 6), (1, 0, 128, 7), (1, 0, 2, 8), (1, 0, 2, 9), (1, 0, 32, 10), (1, 0, 32, 11), (1, 0, 2, 12), (1, 0, 10, 13), (1, 0, 10, 14), (1, 0, 10, 15), (1, 0, 6, 16), (1, 0, 6, 17), (1, 0, 3200, 18), (1, 0, 3200, 19), (2, 0, 12, 20), (2, 0, 10, 21), (1, 0, 20, 22), (1, 0, 20, 23), (3, 0, 20, 24), (1, 0, 20, 25), (1, 0, 20, 26), (1, 0, 500, 27), (1, 0, 6, 28), (1, 0, 22, 29), (1, 0, 22, 30), (1, 0, 1408, 31), (1, 0, 1408, 32), (1, 0, 22, 33), (1, 0, 22, 34), (1, 0, 352, 35), (1, 0, 352, 36), (1, 0, 220, 37), (1, 0, 22, 38), (1, 0, 3520, 39), (2, 0, 500, 40), (1, 0, 10, 41), (1, 0, 64, 42), (1, 0, 64, 43), (1, 0, 64, 44), (1, 0, 16, 45), (1, 0, 16, 46), (1, 0, 16, 47), (1, 0, 41664, 48), (1, 0, 11, 49), (1, 0, 150, 50)]
def tFM : List (List dg_t) := [[(3, 1, 0), (1, 0, 1600), (1, 0, 1600), (1, 0, 3), (1, 0, 1600), (1, 0, 1600), (1, 0, 9999), (2, 0, 0), (1, 0, 6), (1, (-2147483648), 2147483647), (1, (-2147483648), 2147483647), (1, (-2147483648), 2147483647), (1, (-2147483648), 2147483647), (1, 0, 1), (3, 2, 0), (3, 3, 0), (3, 4, 0), (3, 5, 0), (3, 6, 0), (3, 7, 0), (3, 8, 0), (3, 9, 0), (3, 10, 0), (3, 11, 0), (3, 12, 0), (3, 13, 0), (3, 14, 0), (3, 15, 0), (3, 16, 0), (3, 17, 0), (3, 18, 0), (3, 19, 0), (3, 20, 0), (3, 21, 0), (1, 0, 1600), (1, 0, 1), (1, 0, 2), (3, 22, 0), (3, 23, 0), (3, 24, 0), (3, 25, 0), (3, 26, 0), (1, 0, 20), (1, (-2147483648), 2147483647), (3, 27, 0), (1, 0, 500), (1, 0, 1), (1, 0, 1), (3, 28, 0), (3, 29, 0), (3, 30, 0), (3, 31, 0), (3, 32, 0), (3, 33, 0), (3, 34, 0), (3, 35, 0), (3, 36, 0), (3, 37, 0), (3, 38, 0), (3, 39, 0), (1, 0, 19), (1, 0, 20), (2, 0, 0), (1, (-2147483648), 2147483647), (3, 40, 0), (3, 41, 0), (3, 42, 0), (3, 43, 0), (3, 44, 0), (1, 0, 16), (3, 45, 0), (3, 46, 0), (3, 47, 0), (3, 48, 0), (3, 49, 0), (3, 50, 0), (1, 0, 150)], [], [], [], [], [], [], [], [], [], [], [], [], [], [], [], [], [], [], [], [], [], [], [], [], [], [], [], [], [], [], [], [], [], [], [], [], [], [], [], [], [], [], [], [], [], [], [], [], [], []]
def tAM : List dg_t := [(0, 0, 0), (1, 0, 255), (1, 0, 9999), (1, 0, 9999), (1, 0, 9999), (1, 0, 9999), (1, 0, 9999), (1, 0, 9), (1, 0, 6), (1, 0, 16), (0, 0, 0), (1, 0, 63), (1, 0, 5), (1, 0, 9999), (0, 0, 0), (0, 0, 0), (1, (-1), 1600), (1, 0, 1600), (1, 0, 44), (1, 0, 9999), (0, 0, 0), (0, 0, 0), (1, 0, 6), (1, 0, 2), (1, 0, 1), (0, 0, 0), (1, 0, 500), (0, 0, 0), (0, 0, 0), (1, 0, 2000), (0, 0, 0), (1, (-1), 9), (0, 0, 0), (0, 0, 0), (0, 0, 0), (0, 0, 0), (1, 0, 63), (0, 0, 0), (1, 0, 40), (0, 0, 0), (0, 0, 0), (0, 0, 0), (0, 0, 0), (1, 0, 63), (1, 0, 9), (1, 0, 255), (1, 0, 63), (0, 0, 0), (1, (-1), 9), (0, 0, 0), (0, 0, 0)]
def alM : List (List Nat) := []
abbrev CM (o : Nat) (S : dg_S) : Prop := dg_I alM tFM tAM shM o S
theorem sM_0 : shM[0]? = some (0, 12, 77, 0) := by decide +kernel
theorem sM_1 : shM[1]? = some (1, 0, 1800, 1) := by decide +kernel
theorem sM_2 : shM[2]? = some (1, 0, 2, 2) := by decide +kernel
theorem sM_3 : shM[3]? = some (1, 0, 2, 3) := by decide +kernel
theorem sM_4 : shM[4]? = some (1, 0, 2, 4) := by decide +kernel
theorem sM_5 : shM[5]? = some (1, 0, 2, 5) := by decide +kernel
theorem sM_6 : shM[6]? = some (1, 0, 2, 6) := by decide +kernel
theorem sM_7 : shM[7]? = some (1, 0, 128, 7) := by decide +kernel
theorem sM_8 : shM[8]? = some (1, 0, 2, 8) := by decide +kernel
theorem sM_9 : shM[9]? = some (1, 0, 2, 9) := by decide +kernel
theorem sM_10 : shM[10]? = some (1, 0, 32, 10) := by decide +kernel
theorem sM_11 : shM[11]? = some (1, 0, 32, 11) := by decide +kernel
theorem sM_12 : shM[12]? = some (1, 0, 2, 12) := by decide +kernel
theorem sM_13 : shM[13]? = some (1, 0, 10, 13) := by decide +kernel
theorem sM_14 : shM[14]? = some (1, 0, 10, 14) := by decide +kernel
theorem sM_15 : shM[15]? = some (1, 0, 10, 15) := by decide +kernel
theorem sM_16 : shM[16]? = some (1, 0, 6, 16) := by decide +kernel
theorem sM_17 : shM[17]? = some (1, 0, 6, 17) := by decide +kernel
theorem sM_18 : shM[18]? = some (1, 0, 3200, 18) := by decide +kernel
theorem sM_19 : shM[19]? = some (1, 0, 3200, 19) := by decide +kernel
theorem sM_20 : shM[20]? = some (2, 0, 12, 20) := by decide +kernel
theorem sM_21 : shM[21]? = some (2, 0, 10, 21) := by decide +kernel
theorem sM_22 : shM[22]? = some (1, 0, 20, 22) := by decide +kernel
theorem sM_23 : shM[23]? = some (1, 0, 20, 23) := by decide +kernel
theorem sM_24 : shM[24]? = some (3, 0, 20, 24) := by decide +kernel
theorem sM_25 : shM[25]? = some (1, 0, 20, 25) := by decide +kernel
theorem sM_26 : shM[26]? = some (1, 0, 20, 26) := by decide +kernel
theorem sM_27 : shM[27]? = some (1, 0, 500, 27) := by decide +kernel
theorem sM_28 : shM[28]? = some (1, 0, 6, 28) := by decide +kernel
theorem sM_29 : shM[29]? = some (1, 0, 22, 29) := by decide +kernel
theorem sM_30 : shM[30]? = some (1, 0, 22, 30) := by decide +kernel
theorem sM_31 : shM[31]? = some (1, 0, 1408, 31) := by decide +kernel
theorem sM_32 : shM[32]? = some (1, 0, 1408, 32) := by decide +kernel
theorem sM_33 : shM[33]? = some (1, 0, 22, 33) := by decide +kernel
theorem sM_34 : shM[34]? = some (1, 0, 22, 34) := by decide +kernel
theorem sM_35 : shM[35]? = some (1, 0, 352, 35) := by decide +kernel
theorem sM_36 : shM[36]? = some (1, 0, 352, 36) := by decide +kernel
theorem sM_37 : shM[37]? = some (1, 0, 220, 37) := by decide +kernel
theorem sM_38 : shM[38]? = some (1, 0, 22, 38) := by decide +kernel
theorem sM_39 : shM[39]? = some (1, 0, 3520, 39) := by decide +kernel
theorem sM_40 : shM[40]? = some (2, 0, 500, 40) := by decide +kernel
theorem sM_41 : shM[41]? = some (1, 0, 10, 41) := by decide +kernel
theorem sM_42 : shM[42]? = some (1, 0, 64, 42) := by decide +kernel
theorem sM_43 : shM[43]? = some (1, 0, 64, 43) := by decide +kernel
theorem sM_44 : shM[44]? = some (1, 0, 64, 44) := by decide +kernel
theorem sM_45 : shM[45]? = some (1, 0, 16, 45) := by decide +kernel
theorem sM_46 : shM[46]? = some (1, 0, 16, 46) := by decide +kernel
theorem sM_47 : shM[47]? = some (1, 0, 16, 47) := by decide +kernel
theorem sM_48 : shM[48]? = some (1, 0, 41664, 48) := by decide +kernel
theorem sM_49 : shM[49]? = some (1, 0, 11, 49) := by decide +kernel
theorem sM_50 : shM[50]? = some (1, 0, 150, 50) := by decide +kernel
def rfM : dg_R := fun _ _ => none
