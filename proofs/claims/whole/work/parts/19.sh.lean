/-! SHAPES -/
def am_sh : List AmSh := [(0, 8, [1, 3, 18, 33, 38, 43, 48, 49, 53, 57, 61, 63, 64, 72]), (0, 3, [2, -1, -1, -1, -1, -1, -1, -1]), (2, 500, []), (0, 2, [-1, -1, -1, -1, -1, -1, 4, 11, 12, 13, 14, 15, 16, 17]), (5, 6, [5, 6, 7, 8, 9, 10]), (1, 48, []), (1, 48, []), (1, 48, []), (1, 48, []), (1, 48, []), (1, 48, []), (1, 6, []), (1, 6, []), (1, 6, []), (1, 6, []), (1, 48, []), (1, 48, []), (1, 48, []), (0, 2, [-1, -1, -1, -1, -1, -1, 19, 26, 27, 28, 29, 30, 31, 32]), (5, 6, [20, 21, 22, 23, 24, 25]), (1, 48, []), (1, 48, []), (1, 48, []), (1, 48, []), (1, 48, []), (1, 48, []), (1, 6, []), (1, 6, []), (1, 6, []), (1, 6, []), (1, 48, []), (1, 48, []), (1, 48, []), (0, 6, [34, 35, 36, 37, -1, -1, -1]), (1, 6, []), (1, 6, []), (1, 6, []), (1, 48, []), (0, 6, [39, 40, 41, 42, -1, -1, -1]), (1, 6, []), (1, 6, []), (1, 6, []), (1, 48, []), (0, 6, [44, 45, 46, 47, -1, -1, -1]), (1, 6, []), (1, 6, []), (1, 6, []), (1, 48, []), (1, 2, []), (0, 4, [50, 51, 52, -1]), (1, 10, []), (1, 10, []), (1, 10, []), (0, 4, [54, 55, 56, -1]), (1, 10, []), (1, 10, []), (1, 10, []), (0, 4, [58, 59, 60, -1]), (1, 30, []), (1, 30, []), (1, 30, []), (0, 5, [18, 33, 62]), (4, 6, []), (0, 1, [61, 18, 33]), (0, 7, [61, 18, 33, 49, 65]), (5, 6, [66, 67, 68, 69, 70, 71]), (1, 48, []), (1, 48, []), (1, 48, []), (1, 48, []), (1, 48, []), (1, 48, []), (0, 0, [61, 18, 33, 73, 80]), (5, 6, [74, 75, 76, 77, 78, 79]), (1, 6, []), (1, 6, []), (1, 6, []), (1, 6, []), (1, 6, []), (1, 6, []), (1, 64, []), (0, 9, [-1, -1, 82, -1, 83, 84, 85, 86, -1, 87, 88, 89, 90, -1, -1, -1, -1, 91, -1, -1, -1, -2, -1, -1, -1, -1, -1, -1, 92, -1, 93, 94, 95, 96, -1, 97, 98, -1, -1, -1, -1, -1, 99, -1, 100, 101, 102, 103, 104, 105, 106, 107, -1, 108, 109, -1, 110, 111, 112, 113, 114]), (1, 48, []), (1, 6, []), (1, 6, []), (1, 6, []), (1, 6, []), (1, 6, []), (1, 6, []), (3, 6, []), (1, 6, []), (1, 500, []), (1, 48, []), (1, 6, []), (1, 6, []), (1, 6, []), (1, 6, []), (1, 6, []), (1, 6, []), (1, 6, []), (1, 10, []), (1, 10, []), (1, 10, []), (1, 288, []), (1, 336, []), (1, 36, []), (1, 6, []), (1, 6, []), (1, 10, []), (1, 10, []), (1, 30, []), (1, 30, []), (1, 30, []), (1, 140, []), (3, 2, [])]
theorem s_0 : am_sh[0]? = some (0, 8, [1, 3, 18, 33, 38, 43, 48, 49, 53, 57, 61, 63, 64, 72]) := rfl
theorem s_1 : am_sh[1]? = some (0, 3, [2, -1, -1, -1, -1, -1, -1, -1]) := rfl
theorem s_2 : am_sh[2]? = some (2, 500, []) := rfl
theorem s_3 : am_sh[3]? = some (0, 2, [-1, -1, -1, -1, -1, -1, 4, 11, 12, 13, 14, 15, 16, 17]) := rfl
theorem s_4 : am_sh[4]? = some (5, 6, [5, 6, 7, 8, 9, 10]) := rfl
theorem s_11 : am_sh[11]? = some (1, 6, []) := rfl
theorem s_12 : am_sh[12]? = some (1, 6, []) := rfl
theorem s_13 : am_sh[13]? = some (1, 6, []) := rfl
theorem s_14 : am_sh[14]? = some (1, 6, []) := rfl
theorem s_15 : am_sh[15]? = some (1, 48, []) := rfl
theorem s_16 : am_sh[16]? = some (1, 48, []) := rfl
theorem s_17 : am_sh[17]? = some (1, 48, []) := rfl
theorem s_18 : am_sh[18]? = some (0, 2, [-1, -1, -1, -1, -1, -1, 19, 26, 27, 28, 29, 30, 31, 32]) := rfl
theorem s_19 : am_sh[19]? = some (5, 6, [20, 21, 22, 23, 24, 25]) := rfl
theorem s_26 : am_sh[26]? = some (1, 6, []) := rfl
theorem s_27 : am_sh[27]? = some (1, 6, []) := rfl
theorem s_28 : am_sh[28]? = some (1, 6, []) := rfl
theorem s_29 : am_sh[29]? = some (1, 6, []) := rfl
theorem s_30 : am_sh[30]? = some (1, 48, []) := rfl
theorem s_31 : am_sh[31]? = some (1, 48, []) := rfl
theorem s_32 : am_sh[32]? = some (1, 48, []) := rfl
theorem s_33 : am_sh[33]? = some (0, 6, [34, 35, 36, 37, -1, -1, -1]) := rfl
theorem s_34 : am_sh[34]? = some (1, 6, []) := rfl
theorem s_35 : am_sh[35]? = some (1, 6, []) := rfl
theorem s_36 : am_sh[36]? = some (1, 6, []) := rfl
theorem s_37 : am_sh[37]? = some (1, 48, []) := rfl
theorem s_38 : am_sh[38]? = some (0, 6, [39, 40, 41, 42, -1, -1, -1]) := rfl
theorem s_39 : am_sh[39]? = some (1, 6, []) := rfl
theorem s_40 : am_sh[40]? = some (1, 6, []) := rfl
theorem s_41 : am_sh[41]? = some (1, 6, []) := rfl
theorem s_42 : am_sh[42]? = some (1, 48, []) := rfl
theorem s_43 : am_sh[43]? = some (0, 6, [44, 45, 46, 47, -1, -1, -1]) := rfl
theorem s_44 : am_sh[44]? = some (1, 6, []) := rfl
theorem s_45 : am_sh[45]? = some (1, 6, []) := rfl
theorem s_46 : am_sh[46]? = some (1, 6, []) := rfl
theorem s_47 : am_sh[47]? = some (1, 48, []) := rfl
theorem s_48 : am_sh[48]? = some (1, 2, []) := rfl
theorem s_49 : am_sh[49]? = some (0, 4, [50, 51, 52, -1]) := rfl
theorem s_50 : am_sh[50]? = some (1, 10, []) := rfl
theorem s_51 : am_sh[51]? = some (1, 10, []) := rfl
theorem s_52 : am_sh[52]? = some (1, 10, []) := rfl
theorem s_53 : am_sh[53]? = some (0, 4, [54, 55, 56, -1]) := rfl
theorem s_54 : am_sh[54]? = some (1, 10, []) := rfl
theorem s_55 : am_sh[55]? = some (1, 10, []) := rfl
theorem s_56 : am_sh[56]? = some (1, 10, []) := rfl
theorem s_57 : am_sh[57]? = some (0, 4, [58, 59, 60, -1]) := rfl
theorem s_58 : am_sh[58]? = some (1, 30, []) := rfl
theorem s_59 : am_sh[59]? = some (1, 30, []) := rfl
theorem s_60 : am_sh[60]? = some (1, 30, []) := rfl
theorem s_61 : am_sh[61]? = some (0, 5, [18, 33, 62]) := rfl
theorem s_62 : am_sh[62]? = some (4, 6, []) := rfl
theorem s_63 : am_sh[63]? = some (0, 1, [61, 18, 33]) := rfl
theorem s_64 : am_sh[64]? = some (0, 7, [61, 18, 33, 49, 65]) := rfl
theorem s_65 : am_sh[65]? = some (5, 6, [66, 67, 68, 69, 70, 71]) := rfl
theorem s_72 : am_sh[72]? = some (0, 0, [61, 18, 33, 73, 80]) := rfl
theorem s_73 : am_sh[73]? = some (5, 6, [74, 75, 76, 77, 78, 79]) := rfl
theorem s_80 : am_sh[80]? = some (1, 64, []) := rfl
theorem s_81 : am_sh[81]? = some (0, 9, [-1, -1, 82, -1, 83, 84, 85, 86, -1, 87, 88, 89, 90, -1, -1, -1, -1, 91, -1, -1, -1, -2, -1, -1, -1, -1, -1, -1, 92, -1, 93, 94, 95, 96, -1, 97, 98, -1, -1, -1, -1, -1, 99, -1, 100, 101, 102, 103, 104, 105, 106, 107, -1, 108, 109, -1, 110, 111, 112, 113, 114]) := rfl
theorem s_82 : am_sh[82]? = some (1, 48, []) := rfl
theorem s_83 : am_sh[83]? = some (1, 6, []) := rfl
theorem s_84 : am_sh[84]? = some (1, 6, []) := rfl
theorem s_85 : am_sh[85]? = some (1, 6, []) := rfl
theorem s_86 : am_sh[86]? = some (1, 6, []) := rfl
theorem s_87 : am_sh[87]? = some (1, 6, []) := rfl
theorem s_88 : am_sh[88]? = some (1, 6, []) := rfl
theorem s_89 : am_sh[89]? = some (3, 6, []) := rfl
theorem s_90 : am_sh[90]? = some (1, 6, []) := rfl
theorem s_91 : am_sh[91]? = some (1, 500, []) := rfl
theorem s_92 : am_sh[92]? = some (1, 48, []) := rfl
theorem s_93 : am_sh[93]? = some (1, 6, []) := rfl
theorem s_94 : am_sh[94]? = some (1, 6, []) := rfl
theorem s_95 : am_sh[95]? = some (1, 6, []) := rfl
theorem s_96 : am_sh[96]? = some (1, 6, []) := rfl
theorem s_97 : am_sh[97]? = some (1, 6, []) := rfl
theorem s_98 : am_sh[98]? = some (1, 6, []) := rfl
theorem s_99 : am_sh[99]? = some (1, 6, []) := rfl
theorem s_100 : am_sh[100]? = some (1, 10, []) := rfl
theorem s_101 : am_sh[101]? = some (1, 10, []) := rfl
theorem s_102 : am_sh[102]? = some (1, 10, []) := rfl
theorem s_103 : am_sh[103]? = some (1, 288, []) := rfl
theorem s_104 : am_sh[104]? = some (1, 336, []) := rfl
theorem s_105 : am_sh[105]? = some (1, 36, []) := rfl
theorem s_106 : am_sh[106]? = some (1, 6, []) := rfl
theorem s_107 : am_sh[107]? = some (1, 6, []) := rfl
theorem s_108 : am_sh[108]? = some (1, 10, []) := rfl
theorem s_109 : am_sh[109]? = some (1, 10, []) := rfl
theorem s_110 : am_sh[110]? = some (1, 30, []) := rfl
theorem s_111 : am_sh[111]? = some (1, 30, []) := rfl
theorem s_112 : am_sh[112]? = some (1, 30, []) := rfl
theorem s_113 : am_sh[113]? = some (1, 140, []) := rfl
theorem s_114 : am_sh[114]? = some (3, 2, []) := rfl
theorem row_5 {i : Int32} (h : ¬ (i < 0 ∨ 6 ≤ i.toNatClampNeg)) : am_sh[5 + i.toNatClampNeg]? = some (1, 48, []) := (show ∀ j, j < 6 → am_sh[5 + j]? = some (1, 48, []) by decide) _ (Nat.not_le.mp (fun q => h (Or.inr q)))
theorem row_20 {i : Int32} (h : ¬ (i < 0 ∨ 6 ≤ i.toNatClampNeg)) : am_sh[20 + i.toNatClampNeg]? = some (1, 48, []) := (show ∀ j, j < 6 → am_sh[20 + j]? = some (1, 48, []) by decide) _ (Nat.not_le.mp (fun q => h (Or.inr q)))
theorem row_66 {i : Int32} (h : ¬ (i < 0 ∨ 6 ≤ i.toNatClampNeg)) : am_sh[66 + i.toNatClampNeg]? = some (1, 48, []) := (show ∀ j, j < 6 → am_sh[66 + j]? = some (1, 48, []) by decide) _ (Nat.not_le.mp (fun q => h (Or.inr q)))
theorem row_74 {i : Int32} (h : ¬ (i < 0 ∨ 6 ≤ i.toNatClampNeg)) : am_sh[74 + i.toNatClampNeg]? = some (1, 6, []) := (show ∀ j, j < 6 → am_sh[74 + j]? = some (1, 6, []) by decide) _ (Nat.not_le.mp (fun q => h (Or.inr q)))
theorem am_iteh {α : Type} {c : Prop} {i : Decidable c} {a a' b b' : α} (ha : c → a = a') (hb : b = b') : @ite α c i a b = @ite α c i a' b' := by
  by_cases h : c
  · rw [if_pos h, if_pos h, ha h]
  · rw [if_neg h, if_neg h, hb]
