/-! SHAPES, AND THE TABLES BY PLACE -/
def am_sh : List AmSh := [(0, 8, [1, 3, 18, 33, 38, 43, 48, 49, 53, 57, 61, 63, 64, 72]), (0, 3, [2, -1, -1, -1, -1, -1, -1, -1]), (2, 500, []), (0, 2, [-1, -1, -1, -1, -1, -1, 4, 11, 12, 13, 14, 15, 16, 17]), (5, 6, [5, 6, 7, 8, 9, 10]), (1, 48, []), (1, 48, []), (1, 48, []), (1, 48, []), (1, 48, []), (1, 48, []), (1, 6, []), (1, 6, []), (1, 6, []), (1, 6, []), (1, 48, []), (1, 48, []), (1, 48, []), (0, 2, [-1, -1, -1, -1, -1, -1, 19, 26, 27, 28, 29, 30, 31, 32]), (5, 6, [20, 21, 22, 23, 24, 25]), (1, 48, []), (1, 48, []), (1, 48, []), (1, 48, []), (1, 48, []), (1, 48, []), (1, 6, []), (1, 6, []), (1, 6, []), (1, 6, []), (1, 48, []), (1, 48, []), (1, 48, []), (0, 6, [34, 35, 36, 37, -1, -1, -1]), (1, 6, []), (1, 6, []), (1, 6, []), (1, 48, []), (0, 6, [39, 40, 41, 42, -1, -1, -1]), (1, 6, []), (1, 6, []), (1, 6, []), (1, 48, []), (0, 6, [44, 45, 46, 47, -1, -1, -1]), (1, 6, []), (1, 6, []), (1, 6, []), (1, 48, []), (1, 2, []), (0, 4, [50, 51, 52, -1]), (1, 10, []), (1, 10, []), (1, 10, []), (0, 4, [54, 55, 56, -1]), (1, 10, []), (1, 10, []), (1, 10, []), (0, 4, [58, 59, 60, -1]), (1, 30, []), (1, 30, []), (1, 30, []), (0, 5, [18, 33, 62]), (4, 6, []), (0, 1, [61, 18, 33]), (0, 7, [61, 18, 33, 49, 65]), (5, 6, [66, 67, 68, 69, 70, 71]), (1, 48, []), (1, 48, []), (1, 48, []), (1, 48, []), (1, 48, []), (1, 48, []), (0, 0, [61, 18, 33, 73, 80]), (5, 6, [74, 75, 76, 77, 78, 79]), (1, 6, []), (1, 6, []), (1, 6, []), (1, 6, []), (1, 6, []), (1, 6, []), (1, 64, []), (0, 9, [-1, -1, 82, -1, 83, 84, 85, 86, -1, 87, 88, 89, 90, -1, -1, -1, -1, 91, -1, -1, -1, -2, -1, -1, -1, -1, -1, -1, 92, -1, 93, 94, 95, 96, -1, 97, 98, -1, -1, -1, -1, -1, 99, -1, 100, 101, 102, 103, 104, 105, 106, 107, -1, 108, 109, -1, 110, 111, 112, 113, 114]), (1, 48, []), (1, 6, []), (1, 6, []), (1, 6, []), (1, 6, []), (1, 6, []), (1, 6, []), (3, 6, []), (1, 6, []), (1, 500, []), (1, 48, []), (1, 6, []), (1, 6, []), (1, 6, []), (1, 6, []), (1, 6, []), (1, 6, []), (1, 6, []), (1, 10, []), (1, 10, []), (1, 10, []), (1, 288, []), (1, 336, []), (1, 36, []), (1, 6, []), (1, 6, []), (1, 10, []), (1, 10, []), (1, 30, []), (1, 30, []), (1, 30, []), (1, 140, []), (3, 2, [])]
theorem s_18 : am_sh[18]? = some (0, 2, [-1, -1, -1, -1, -1, -1, 19, 26, 27, 28, 29, 30, 31, 32]) := rfl
theorem s_49 : am_sh[49]? = some (0, 4, [50, 51, 52, -1]) := rfl
theorem s_50 : am_sh[50]? = some (1, 10, []) := rfl
theorem s_51 : am_sh[51]? = some (1, 10, []) := rfl
theorem s_52 : am_sh[52]? = some (1, 10, []) := rfl
theorem s_81 : am_sh[81]? = some (0, 9, [-1, -1, 82, -1, 83, 84, 85, 86, -1, 87, 88, 89, 90, -1, -1, -1, -1, 91, -1, -1, -1, -2, -1, -1, -1, -1, -1, -1, 92, -1, 93, 94, 95, 96, -1, 97, 98, -1, -1, -1, -1, -1, 99, -1, 100, 101, 102, 103, 104, 105, 106, 107, -1, 108, 109, -1, 110, 111, 112, 113, 114]) := rfl
theorem s_82 : am_sh[82]? = some (1, 48, []) := rfl
theorem s_83 : am_sh[83]? = some (1, 6, []) := rfl
theorem s_84 : am_sh[84]? = some (1, 6, []) := rfl
theorem s_85 : am_sh[85]? = some (1, 6, []) := rfl
theorem m_1 {Ls : Nat} {xs : Nat → Int32} (pc : Nat) : am_tbl Ls xs 1 pc = am_lk (op_X9_in) pc := rfl
theorem t_1_0 {Ls : Nat} {xs : Nat → Int32} : am_tbl Ls xs 1 0 = some (o_lload 0 1) := (m_1 0).trans rfl
theorem t_1_1 {Ls : Nat} {xs : Nat → Int32} : am_tbl Ls xs 1 1 = some (o_lload 2 1) := (m_1 1).trans rfl
theorem t_1_2 {Ls : Nat} {xs : Nat → Int32} : am_tbl Ls xs 1 2 = some (o_lcmp) := (m_1 2).trans rfl
theorem t_1_3 {Ls : Nat} {xs : Nat → Int32} : am_tbl Ls xs 1 3 = some (o_if (fun x => decide (x < 0)) 17) := (m_1 3).trans rfl
theorem t_1_6 {Ls : Nat} {xs : Nat → Int32} : am_tbl Ls xs 1 6 = some (o_lload 0 1) := (m_1 6).trans rfl
theorem t_1_7 {Ls : Nat} {xs : Nat → Int32} : am_tbl Ls xs 1 7 = some (o_lload 4 2) := (m_1 7).trans rfl
theorem t_1_9 {Ls : Nat} {xs : Nat → Int32} : am_tbl Ls xs 1 9 = some (o_lcmp) := (m_1 9).trans rfl
theorem t_1_10 {Ls : Nat} {xs : Nat → Int32} : am_tbl Ls xs 1 10 = some (o_if (fun x => decide (0 < x)) 17) := (m_1 10).trans rfl
theorem t_1_13 {Ls : Nat} {xs : Nat → Int32} : am_tbl Ls xs 1 13 = some (o_push (.int 1) 1) := (m_1 13).trans rfl
theorem t_1_14 {Ls : Nat} {xs : Nat → Int32} : am_tbl Ls xs 1 14 = some (o_goto 18) := (m_1 14).trans rfl
theorem t_1_17 {Ls : Nat} {xs : Nat → Int32} : am_tbl Ls xs 1 17 = some (o_nrm [] (o_push (.int 0) 1)) := (m_1 17).trans rfl
theorem t_1_18 {Ls : Nat} {xs : Nat → Int32} : am_tbl Ls xs 1 18 = some (o_nrm [] (o_zret)) := (m_1 18).trans rfl
theorem m_3 {Ls : Nat} {xs : Nat → Int32} (pc : Nat) : am_tbl Ls xs 3 pc = am_lk (op_X9_bits) pc := rfl
theorem t_3_0 {Ls : Nat} {xs : Nat → Int32} : am_tbl Ls xs 3 0 = some (o_push (.int 0) 1) := (m_3 0).trans rfl
theorem t_3_1 {Ls : Nat} {xs : Nat → Int32} : am_tbl Ls xs 3 1 = some (o_istore 2 1) := (m_3 1).trans rfl
theorem t_3_2 {Ls : Nat} {xs : Nat → Int32} : am_tbl Ls xs 3 2 = some (o_push (.int 0) 1) := (m_3 2).trans rfl
theorem t_3_3 {Ls : Nat} {xs : Nat → Int32} : am_tbl Ls xs 3 3 = some (o_istore 3 1) := (m_3 3).trans rfl
theorem t_3_4 {Ls : Nat} {xs : Nat → Int32} : am_tbl Ls xs 3 4 = some (o_nrm [0, 2, 3] (o_iload 3 1)) := (m_3 4).trans rfl
theorem t_3_5 {Ls : Nat} {xs : Nat → Int32} : am_tbl Ls xs 3 5 = some (o_push (.int 48) 2) := (m_3 5).trans rfl
theorem t_3_7 {Ls : Nat} {xs : Nat → Int32} : am_tbl Ls xs 3 7 = some (o_icmp (fun x y => decide (y ≤ x)) 25) := (m_3 7).trans rfl
theorem t_3_10 {Ls : Nat} {xs : Nat → Int32} : am_tbl Ls xs 3 10 = some (o_iload 2 1) := (m_3 10).trans rfl
theorem t_3_11 {Ls : Nat} {xs : Nat → Int32} : am_tbl Ls xs 3 11 = some (o_lload 0 1) := (m_3 11).trans rfl
theorem t_3_12 {Ls : Nat} {xs : Nat → Int32} : am_tbl Ls xs 3 12 = some (o_iload 3 1) := (m_3 12).trans rfl
theorem t_3_13 {Ls : Nat} {xs : Nat → Int32} : am_tbl Ls xs 3 13 = some (o_lsh (fun x y => x >>> (y.toInt64 &&& 63))) := (m_3 13).trans rfl
theorem t_3_14 {Ls : Nat} {xs : Nat → Int32} : am_tbl Ls xs 3 14 = some (o_push (.long 1) 1) := (m_3 14).trans rfl
theorem t_3_15 {Ls : Nat} {xs : Nat → Int32} : am_tbl Ls xs 3 15 = some (o_lbin (fun x y => x &&& y)) := (m_3 15).trans rfl
theorem t_3_16 {Ls : Nat} {xs : Nat → Int32} : am_tbl Ls xs 3 16 = some (o_l2i) := (m_3 16).trans rfl
theorem t_3_17 {Ls : Nat} {xs : Nat → Int32} : am_tbl Ls xs 3 17 = some (o_ibin (fun x y => x + y)) := (m_3 17).trans rfl
theorem t_3_18 {Ls : Nat} {xs : Nat → Int32} : am_tbl Ls xs 3 18 = some (o_istore 2 1) := (m_3 18).trans rfl
theorem t_3_19 {Ls : Nat} {xs : Nat → Int32} : am_tbl Ls xs 3 19 = some (o_iinc 3 1) := (m_3 19).trans rfl
theorem t_3_22 {Ls : Nat} {xs : Nat → Int32} : am_tbl Ls xs 3 22 = some (o_goto 4) := (m_3 22).trans rfl
theorem t_3_25 {Ls : Nat} {xs : Nat → Int32} : am_tbl Ls xs 3 25 = some (o_iload 2 1) := (m_3 25).trans rfl
theorem t_3_26 {Ls : Nat} {xs : Nat → Int32} : am_tbl Ls xs 3 26 = some (o_iret) := (m_3 26).trans rfl
theorem m_4 {Ls : Nat} {xs : Nat → Int32} (pc : Nat) : am_tbl Ls xs 4 pc = am_lk (op_X9_isCell) pc := rfl
theorem t_4_0 {Ls : Nat} {xs : Nat → Int32} : am_tbl Ls xs 4 0 = some (o_iload 1 1) := (m_4 0).trans rfl
theorem t_4_1 {Ls : Nat} {xs : Nat → Int32} : am_tbl Ls xs 4 1 = some (o_i2l) := (m_4 1).trans rfl
theorem t_4_2 {Ls : Nat} {xs : Nat → Int32} : am_tbl Ls xs 4 2 = some (o_push (.long 0) 1) := (m_4 2).trans rfl
theorem t_4_3 {Ls : Nat} {xs : Nat → Int32} : am_tbl Ls xs 4 3 = some (o_aload 0 1) := (m_4 3).trans rfl
theorem t_4_4 {Ls : Nat} {xs : Nat → Int32} : am_tbl Ls xs 4 4 = some (o_get 9 0) := (m_4 4).trans rfl
theorem t_4_7 {Ls : Nat} {xs : Nat → Int32} : am_tbl Ls xs 4 7 = some (o_push (.int 1) 1) := (m_4 7).trans rfl
theorem t_4_8 {Ls : Nat} {xs : Nat → Int32} : am_tbl Ls xs 4 8 = some (o_ibin (fun x y => x - y)) := (m_4 8).trans rfl
theorem t_4_9 {Ls : Nat} {xs : Nat → Int32} : am_tbl Ls xs 4 9 = some (o_i2l) := (m_4 9).trans rfl
theorem t_4_10 {Ls : Nat} {xs : Nat → Int32} : am_tbl Ls xs 4 10 = some (o_calls 1 3 6) := (m_4 10).trans rfl
theorem t_4_13 {Ls : Nat} {xs : Nat → Int32} : am_tbl Ls xs 4 13 = some (o_if (fun x => decide (x = 0)) 36) := (m_4 13).trans rfl
theorem t_4_16 {Ls : Nat} {xs : Nat → Int32} : am_tbl Ls xs 4 16 = some (o_iload 2 1) := (m_4 16).trans rfl
theorem t_4_17 {Ls : Nat} {xs : Nat → Int32} : am_tbl Ls xs 4 17 = some (o_i2l) := (m_4 17).trans rfl
theorem t_4_18 {Ls : Nat} {xs : Nat → Int32} : am_tbl Ls xs 4 18 = some (o_push (.long 0) 1) := (m_4 18).trans rfl
theorem t_4_19 {Ls : Nat} {xs : Nat → Int32} : am_tbl Ls xs 4 19 = some (o_aload 0 1) := (m_4 19).trans rfl
theorem t_4_20 {Ls : Nat} {xs : Nat → Int32} : am_tbl Ls xs 4 20 = some (o_get 9 1) := (m_4 20).trans rfl
theorem t_4_23 {Ls : Nat} {xs : Nat → Int32} : am_tbl Ls xs 4 23 = some (o_push (.int 1) 1) := (m_4 23).trans rfl
theorem t_4_24 {Ls : Nat} {xs : Nat → Int32} : am_tbl Ls xs 4 24 = some (o_ibin (fun x y => x - y)) := (m_4 24).trans rfl
theorem t_4_25 {Ls : Nat} {xs : Nat → Int32} : am_tbl Ls xs 4 25 = some (o_i2l) := (m_4 25).trans rfl
theorem t_4_26 {Ls : Nat} {xs : Nat → Int32} : am_tbl Ls xs 4 26 = some (o_calls 1 3 6) := (m_4 26).trans rfl
theorem t_4_29 {Ls : Nat} {xs : Nat → Int32} : am_tbl Ls xs 4 29 = some (o_if (fun x => decide (x = 0)) 36) := (m_4 29).trans rfl
theorem t_4_32 {Ls : Nat} {xs : Nat → Int32} : am_tbl Ls xs 4 32 = some (o_push (.int 1) 1) := (m_4 32).trans rfl
theorem t_4_33 {Ls : Nat} {xs : Nat → Int32} : am_tbl Ls xs 4 33 = some (o_goto 37) := (m_4 33).trans rfl
theorem t_4_36 {Ls : Nat} {xs : Nat → Int32} : am_tbl Ls xs 4 36 = some (o_nrm [] (o_push (.int 0) 1)) := (m_4 36).trans rfl
theorem t_4_37 {Ls : Nat} {xs : Nat → Int32} : am_tbl Ls xs 4 37 = some (o_nrm [] (o_zret)) := (m_4 37).trans rfl
theorem m_27 {Ls : Nat} {xs : Nat → Int32} (pc : Nat) : am_tbl Ls xs 27 pc = am_lk (op_X9_shadowOf) pc := rfl
theorem t_27_0 {Ls : Nat} {xs : Nat → Int32} : am_tbl Ls xs 27 0 = some (o_push (.long 0) 1) := (m_27 0).trans rfl
theorem t_27_1 {Ls : Nat} {xs : Nat → Int32} : am_tbl Ls xs 27 1 = some (o_lstore 4 2) := (m_27 1).trans rfl
theorem t_27_3 {Ls : Nat} {xs : Nat → Int32} : am_tbl Ls xs 27 3 = some (o_iload 1 1) := (m_27 3).trans rfl
theorem t_27_4 {Ls : Nat} {xs : Nat → Int32} : am_tbl Ls xs 27 4 = some (o_aload 0 1) := (m_27 4).trans rfl
theorem t_27_5 {Ls : Nat} {xs : Nat → Int32} : am_tbl Ls xs 27 5 = some (o_get 9 0) := (m_27 5).trans rfl
theorem t_27_8 {Ls : Nat} {xs : Nat → Int32} : am_tbl Ls xs 27 8 = some (o_idv (fun x y => x - x / y * y)) := (m_27 8).trans rfl
theorem t_27_9 {Ls : Nat} {xs : Nat → Int32} : am_tbl Ls xs 27 9 = some (o_istore 6 2) := (m_27 9).trans rfl
theorem t_27_11 {Ls : Nat} {xs : Nat → Int32} : am_tbl Ls xs 27 11 = some (o_iload 1 1) := (m_27 11).trans rfl
theorem t_27_12 {Ls : Nat} {xs : Nat → Int32} : am_tbl Ls xs 27 12 = some (o_aload 0 1) := (m_27 12).trans rfl
theorem t_27_13 {Ls : Nat} {xs : Nat → Int32} : am_tbl Ls xs 27 13 = some (o_get 9 0) := (m_27 13).trans rfl
theorem t_27_16 {Ls : Nat} {xs : Nat → Int32} : am_tbl Ls xs 27 16 = some (o_idv (fun x y => x / y)) := (m_27 16).trans rfl
theorem t_27_17 {Ls : Nat} {xs : Nat → Int32} : am_tbl Ls xs 27 17 = some (o_istore 7 2) := (m_27 17).trans rfl
theorem t_27_19 {Ls : Nat} {xs : Nat → Int32} : am_tbl Ls xs 27 19 = some (o_push (.int 0) 1) := (m_27 19).trans rfl
theorem t_27_20 {Ls : Nat} {xs : Nat → Int32} : am_tbl Ls xs 27 20 = some (o_istore 8 2) := (m_27 20).trans rfl
theorem t_27_22 {Ls : Nat} {xs : Nat → Int32} : am_tbl Ls xs 27 22 = some (o_nrm [0, 2, 3, 4, 6, 7, 8] (o_iload 8 2)) := (m_27 22).trans rfl
theorem t_27_24 {Ls : Nat} {xs : Nat → Int32} : am_tbl Ls xs 27 24 = some (o_iload 2 1) := (m_27 24).trans rfl
theorem t_27_25 {Ls : Nat} {xs : Nat → Int32} : am_tbl Ls xs 27 25 = some (o_aload 0 1) := (m_27 25).trans rfl
theorem t_27_26 {Ls : Nat} {xs : Nat → Int32} : am_tbl Ls xs 27 26 = some (o_get 9 6) := (m_27 26).trans rfl
theorem t_27_29 {Ls : Nat} {xs : Nat → Int32} : am_tbl Ls xs 27 29 = some (o_iload 3 1) := (m_27 29).trans rfl
theorem t_27_30 {Ls : Nat} {xs : Nat → Int32} : am_tbl Ls xs 27 30 = some (o_iald 1) := (m_27 30).trans rfl
theorem t_27_31 {Ls : Nat} {xs : Nat → Int32} : am_tbl Ls xs 27 31 = some (o_ibin (fun x y => x * y)) := (m_27 31).trans rfl
theorem t_27_32 {Ls : Nat} {xs : Nat → Int32} : am_tbl Ls xs 27 32 = some (o_icmp (fun x y => decide (y ≤ x)) 112) := (m_27 32).trans rfl
theorem t_27_35 {Ls : Nat} {xs : Nat → Int32} : am_tbl Ls xs 27 35 = some (o_iload 6 2) := (m_27 35).trans rfl
theorem t_27_37 {Ls : Nat} {xs : Nat → Int32} : am_tbl Ls xs 27 37 = some (o_aload 0 1) := (m_27 37).trans rfl
theorem t_27_38 {Ls : Nat} {xs : Nat → Int32} : am_tbl Ls xs 27 38 = some (o_get 9 4) := (m_27 38).trans rfl
theorem t_27_41 {Ls : Nat} {xs : Nat → Int32} : am_tbl Ls xs 27 41 = some (o_iload 3 1) := (m_27 41).trans rfl
theorem t_27_42 {Ls : Nat} {xs : Nat → Int32} : am_tbl Ls xs 27 42 = some (o_iald 1) := (m_27 42).trans rfl
theorem t_27_43 {Ls : Nat} {xs : Nat → Int32} : am_tbl Ls xs 27 43 = some (o_ibin (fun x y => x + y)) := (m_27 43).trans rfl
theorem t_27_44 {Ls : Nat} {xs : Nat → Int32} : am_tbl Ls xs 27 44 = some (o_istore 6 2) := (m_27 44).trans rfl
theorem t_27_46 {Ls : Nat} {xs : Nat → Int32} : am_tbl Ls xs 27 46 = some (o_iload 7 2) := (m_27 46).trans rfl
theorem t_27_48 {Ls : Nat} {xs : Nat → Int32} : am_tbl Ls xs 27 48 = some (o_aload 0 1) := (m_27 48).trans rfl
theorem t_27_49 {Ls : Nat} {xs : Nat → Int32} : am_tbl Ls xs 27 49 = some (o_get 9 5) := (m_27 49).trans rfl
theorem t_27_52 {Ls : Nat} {xs : Nat → Int32} : am_tbl Ls xs 27 52 = some (o_iload 3 1) := (m_27 52).trans rfl
theorem t_27_53 {Ls : Nat} {xs : Nat → Int32} : am_tbl Ls xs 27 53 = some (o_iald 1) := (m_27 53).trans rfl
theorem t_27_54 {Ls : Nat} {xs : Nat → Int32} : am_tbl Ls xs 27 54 = some (o_ibin (fun x y => x + y)) := (m_27 54).trans rfl
theorem t_27_55 {Ls : Nat} {xs : Nat → Int32} : am_tbl Ls xs 27 55 = some (o_istore 7 2) := (m_27 55).trans rfl
theorem t_27_57 {Ls : Nat} {xs : Nat → Int32} : am_tbl Ls xs 27 57 = some (o_aload 0 1) := (m_27 57).trans rfl
theorem t_27_58 {Ls : Nat} {xs : Nat → Int32} : am_tbl Ls xs 27 58 = some (o_iload 6 2) := (m_27 58).trans rfl
theorem t_27_60 {Ls : Nat} {xs : Nat → Int32} : am_tbl Ls xs 27 60 = some (o_iload 7 2) := (m_27 60).trans rfl
theorem t_27_62 {Ls : Nat} {xs : Nat → Int32} : am_tbl Ls xs 27 62 = some (o_callv 4 2 9 3) := (m_27 62).trans rfl
theorem t_27_65 {Ls : Nat} {xs : Nat → Int32} : am_tbl Ls xs 27 65 = some (o_if (fun x => decide (x = 0)) 86) := (m_27 65).trans rfl
theorem t_27_68 {Ls : Nat} {xs : Nat → Int32} : am_tbl Ls xs 27 68 = some (o_aload 0 1) := (m_27 68).trans rfl
theorem t_27_69 {Ls : Nat} {xs : Nat → Int32} : am_tbl Ls xs 27 69 = some (o_get 9 2) := (m_27 69).trans rfl
theorem t_27_72 {Ls : Nat} {xs : Nat → Int32} : am_tbl Ls xs 27 72 = some (o_aload 0 1) := (m_27 72).trans rfl
theorem t_27_73 {Ls : Nat} {xs : Nat → Int32} : am_tbl Ls xs 27 73 = some (o_get 9 0) := (m_27 73).trans rfl
theorem t_27_76 {Ls : Nat} {xs : Nat → Int32} : am_tbl Ls xs 27 76 = some (o_iload 7 2) := (m_27 76).trans rfl
theorem t_27_78 {Ls : Nat} {xs : Nat → Int32} : am_tbl Ls xs 27 78 = some (o_ibin (fun x y => x * y)) := (m_27 78).trans rfl
theorem t_27_79 {Ls : Nat} {xs : Nat → Int32} : am_tbl Ls xs 27 79 = some (o_iload 6 2) := (m_27 79).trans rfl
theorem t_27_81 {Ls : Nat} {xs : Nat → Int32} : am_tbl Ls xs 27 81 = some (o_ibin (fun x y => x + y)) := (m_27 81).trans rfl
theorem t_27_82 {Ls : Nat} {xs : Nat → Int32} : am_tbl Ls xs 27 82 = some (o_iald 1) := (m_27 82).trans rfl
theorem t_27_83 {Ls : Nat} {xs : Nat → Int32} : am_tbl Ls xs 27 83 = some (o_if (fun x => decide (x ≤ 0)) 89) := (m_27 83).trans rfl
theorem t_27_86 {Ls : Nat} {xs : Nat → Int32} : am_tbl Ls xs 27 86 = some (o_nrm [4] (o_lload 4 2)) := (m_27 86).trans rfl
theorem t_27_88 {Ls : Nat} {xs : Nat → Int32} : am_tbl Ls xs 27 88 = some (o_lret) := (m_27 88).trans rfl
theorem t_27_89 {Ls : Nat} {xs : Nat → Int32} : am_tbl Ls xs 27 89 = some (o_lload 4 2) := (m_27 89).trans rfl
theorem t_27_91 {Ls : Nat} {xs : Nat → Int32} : am_tbl Ls xs 27 91 = some (o_push (.long 1) 1) := (m_27 91).trans rfl
theorem t_27_92 {Ls : Nat} {xs : Nat → Int32} : am_tbl Ls xs 27 92 = some (o_aload 0 1) := (m_27 92).trans rfl
theorem t_27_93 {Ls : Nat} {xs : Nat → Int32} : am_tbl Ls xs 27 93 = some (o_get 9 0) := (m_27 93).trans rfl
theorem t_27_96 {Ls : Nat} {xs : Nat → Int32} : am_tbl Ls xs 27 96 = some (o_iload 7 2) := (m_27 96).trans rfl
theorem t_27_98 {Ls : Nat} {xs : Nat → Int32} : am_tbl Ls xs 27 98 = some (o_ibin (fun x y => x * y)) := (m_27 98).trans rfl
theorem t_27_99 {Ls : Nat} {xs : Nat → Int32} : am_tbl Ls xs 27 99 = some (o_iload 6 2) := (m_27 99).trans rfl
theorem t_27_101 {Ls : Nat} {xs : Nat → Int32} : am_tbl Ls xs 27 101 = some (o_ibin (fun x y => x + y)) := (m_27 101).trans rfl
theorem t_27_102 {Ls : Nat} {xs : Nat → Int32} : am_tbl Ls xs 27 102 = some (o_lsh (fun x y => x <<< (y.toInt64 &&& 63))) := (m_27 102).trans rfl
theorem t_27_103 {Ls : Nat} {xs : Nat → Int32} : am_tbl Ls xs 27 103 = some (o_lbin (fun x y => x ||| y)) := (m_27 103).trans rfl
theorem t_27_104 {Ls : Nat} {xs : Nat → Int32} : am_tbl Ls xs 27 104 = some (o_lstore 4 2) := (m_27 104).trans rfl
theorem t_27_106 {Ls : Nat} {xs : Nat → Int32} : am_tbl Ls xs 27 106 = some (o_iinc 8 1) := (m_27 106).trans rfl
theorem t_27_109 {Ls : Nat} {xs : Nat → Int32} : am_tbl Ls xs 27 109 = some (o_goto 22) := (m_27 109).trans rfl
theorem t_27_112 {Ls : Nat} {xs : Nat → Int32} : am_tbl Ls xs 27 112 = some (o_lload 4 2) := (m_27 112).trans rfl
theorem t_27_114 {Ls : Nat} {xs : Nat → Int32} : am_tbl Ls xs 27 114 = some (o_lret) := (m_27 114).trans rfl
theorem m_137 {Ls : Nat} {xs : Nat → Int32} (pc : Nat) : am_tbl Ls xs 137 pc = am_lk (op_X2_cellAt) pc := rfl
theorem t_137_0 {Ls : Nat} {xs : Nat → Int32} : am_tbl Ls xs 137 0 = some (o_iload 1 1) := (m_137 0).trans rfl
theorem t_137_1 {Ls : Nat} {xs : Nat → Int32} : am_tbl Ls xs 137 1 = some (o_if (fun x => decide (x < 0)) 24) := (m_137 1).trans rfl
theorem t_137_4 {Ls : Nat} {xs : Nat → Int32} : am_tbl Ls xs 137 4 = some (o_iload 2 1) := (m_137 4).trans rfl
theorem t_137_5 {Ls : Nat} {xs : Nat → Int32} : am_tbl Ls xs 137 5 = some (o_if (fun x => decide (x < 0)) 24) := (m_137 5).trans rfl
theorem t_137_8 {Ls : Nat} {xs : Nat → Int32} : am_tbl Ls xs 137 8 = some (o_iload 1 1) := (m_137 8).trans rfl
theorem t_137_9 {Ls : Nat} {xs : Nat → Int32} : am_tbl Ls xs 137 9 = some (o_aload 0 1) := (m_137 9).trans rfl
theorem t_137_10 {Ls : Nat} {xs : Nat → Int32} : am_tbl Ls xs 137 10 = some (o_get 2 0) := (m_137 10).trans rfl
theorem t_137_13 {Ls : Nat} {xs : Nat → Int32} : am_tbl Ls xs 137 13 = some (o_icmp (fun x y => decide (y ≤ x)) 24) := (m_137 13).trans rfl
theorem t_137_16 {Ls : Nat} {xs : Nat → Int32} : am_tbl Ls xs 137 16 = some (o_iload 2 1) := (m_137 16).trans rfl
theorem t_137_17 {Ls : Nat} {xs : Nat → Int32} : am_tbl Ls xs 137 17 = some (o_aload 0 1) := (m_137 17).trans rfl
theorem t_137_18 {Ls : Nat} {xs : Nat → Int32} : am_tbl Ls xs 137 18 = some (o_get 2 1) := (m_137 18).trans rfl
theorem t_137_21 {Ls : Nat} {xs : Nat → Int32} : am_tbl Ls xs 137 21 = some (o_icmp (fun x y => decide (x < y)) 26) := (m_137 21).trans rfl
theorem t_137_24 {Ls : Nat} {xs : Nat → Int32} : am_tbl Ls xs 137 24 = some (o_nrm [] (o_push (.int (-1)) 1)) := (m_137 24).trans rfl
theorem t_137_25 {Ls : Nat} {xs : Nat → Int32} : am_tbl Ls xs 137 25 = some (o_iret) := (m_137 25).trans rfl
theorem t_137_26 {Ls : Nat} {xs : Nat → Int32} : am_tbl Ls xs 137 26 = some (o_iload 2 1) := (m_137 26).trans rfl
theorem t_137_27 {Ls : Nat} {xs : Nat → Int32} : am_tbl Ls xs 137 27 = some (o_aload 0 1) := (m_137 27).trans rfl
theorem t_137_28 {Ls : Nat} {xs : Nat → Int32} : am_tbl Ls xs 137 28 = some (o_get 2 0) := (m_137 28).trans rfl
theorem t_137_31 {Ls : Nat} {xs : Nat → Int32} : am_tbl Ls xs 137 31 = some (o_ibin (fun x y => x * y)) := (m_137 31).trans rfl
theorem t_137_32 {Ls : Nat} {xs : Nat → Int32} : am_tbl Ls xs 137 32 = some (o_iload 1 1) := (m_137 32).trans rfl
theorem t_137_33 {Ls : Nat} {xs : Nat → Int32} : am_tbl Ls xs 137 33 = some (o_ibin (fun x y => x + y)) := (m_137 33).trans rfl
theorem t_137_34 {Ls : Nat} {xs : Nat → Int32} : am_tbl Ls xs 137 34 = some (o_iret) := (m_137 34).trans rfl
theorem m_161 {Ls : Nat} {xs : Nat → Int32} (pc : Nat) : am_tbl Ls xs 161 pc = am_lk (op_X4_add) pc := rfl
theorem t_161_0 {Ls : Nat} {xs : Nat → Int32} : am_tbl Ls xs 161 0 = some (o_aload 0 1) := (m_161 0).trans rfl
theorem t_161_1 {Ls : Nat} {xs : Nat → Int32} : am_tbl Ls xs 161 1 = some (o_get 4 3) := (m_161 1).trans rfl
theorem t_161_4 {Ls : Nat} {xs : Nat → Int32} : am_tbl Ls xs 161 4 = some (o_aload 0 1) := (m_161 4).trans rfl
theorem t_161_5 {Ls : Nat} {xs : Nat → Int32} : am_tbl Ls xs 161 5 = some (o_get 4 0) := (m_161 5).trans rfl
theorem t_161_8 {Ls : Nat} {xs : Nat → Int32} : am_tbl Ls xs 161 8 = some (o_alen) := (m_161 8).trans rfl
theorem t_161_9 {Ls : Nat} {xs : Nat → Int32} : am_tbl Ls xs 161 9 = some (o_icmp (fun x y => decide (x < y)) 14) := (m_161 9).trans rfl
theorem t_161_12 {Ls : Nat} {xs : Nat → Int32} : am_tbl Ls xs 161 12 = some (o_push (.int 0) 1) := (m_161 12).trans rfl
theorem t_161_13 {Ls : Nat} {xs : Nat → Int32} : am_tbl Ls xs 161 13 = some (o_zret) := (m_161 13).trans rfl
theorem t_161_14 {Ls : Nat} {xs : Nat → Int32} : am_tbl Ls xs 161 14 = some (o_aload 0 1) := (m_161 14).trans rfl
theorem t_161_15 {Ls : Nat} {xs : Nat → Int32} : am_tbl Ls xs 161 15 = some (o_get 4 0) := (m_161 15).trans rfl
theorem t_161_18 {Ls : Nat} {xs : Nat → Int32} : am_tbl Ls xs 161 18 = some (o_aload 0 1) := (m_161 18).trans rfl
theorem t_161_19 {Ls : Nat} {xs : Nat → Int32} : am_tbl Ls xs 161 19 = some (o_get 4 3) := (m_161 19).trans rfl
theorem t_161_22 {Ls : Nat} {xs : Nat → Int32} : am_tbl Ls xs 161 22 = some (o_iload 1 1) := (m_161 22).trans rfl
theorem t_161_23 {Ls : Nat} {xs : Nat → Int32} : am_tbl Ls xs 161 23 = some (o_iast 1 (fun x => x)) := (m_161 23).trans rfl
theorem t_161_24 {Ls : Nat} {xs : Nat → Int32} : am_tbl Ls xs 161 24 = some (o_aload 0 1) := (m_161 24).trans rfl
theorem t_161_25 {Ls : Nat} {xs : Nat → Int32} : am_tbl Ls xs 161 25 = some (o_get 4 1) := (m_161 25).trans rfl
theorem t_161_28 {Ls : Nat} {xs : Nat → Int32} : am_tbl Ls xs 161 28 = some (o_aload 0 1) := (m_161 28).trans rfl
theorem t_161_29 {Ls : Nat} {xs : Nat → Int32} : am_tbl Ls xs 161 29 = some (o_get 4 3) := (m_161 29).trans rfl
theorem t_161_32 {Ls : Nat} {xs : Nat → Int32} : am_tbl Ls xs 161 32 = some (o_iload 2 1) := (m_161 32).trans rfl
theorem t_161_33 {Ls : Nat} {xs : Nat → Int32} : am_tbl Ls xs 161 33 = some (o_iast 1 (fun x => x)) := (m_161 33).trans rfl
theorem t_161_34 {Ls : Nat} {xs : Nat → Int32} : am_tbl Ls xs 161 34 = some (o_aload 0 1) := (m_161 34).trans rfl
theorem t_161_35 {Ls : Nat} {xs : Nat → Int32} : am_tbl Ls xs 161 35 = some (o_get 4 2) := (m_161 35).trans rfl
theorem t_161_38 {Ls : Nat} {xs : Nat → Int32} : am_tbl Ls xs 161 38 = some (o_aload 0 1) := (m_161 38).trans rfl
theorem t_161_39 {Ls : Nat} {xs : Nat → Int32} : am_tbl Ls xs 161 39 = some (o_get 4 3) := (m_161 39).trans rfl
theorem t_161_42 {Ls : Nat} {xs : Nat → Int32} : am_tbl Ls xs 161 42 = some (o_iload 3 1) := (m_161 42).trans rfl
theorem t_161_43 {Ls : Nat} {xs : Nat → Int32} : am_tbl Ls xs 161 43 = some (o_iast 1 (fun x => x)) := (m_161 43).trans rfl
theorem t_161_44 {Ls : Nat} {xs : Nat → Int32} : am_tbl Ls xs 161 44 = some (o_aload 0 1) := (m_161 44).trans rfl
theorem t_161_45 {Ls : Nat} {xs : Nat → Int32} : am_tbl Ls xs 161 45 = some (o_dup) := (m_161 45).trans rfl
theorem t_161_46 {Ls : Nat} {xs : Nat → Int32} : am_tbl Ls xs 161 46 = some (o_get 4 3) := (m_161 46).trans rfl
theorem t_161_49 {Ls : Nat} {xs : Nat → Int32} : am_tbl Ls xs 161 49 = some (o_push (.int 1) 1) := (m_161 49).trans rfl
theorem t_161_50 {Ls : Nat} {xs : Nat → Int32} : am_tbl Ls xs 161 50 = some (o_ibin (fun x y => x + y)) := (m_161 50).trans rfl
theorem t_161_51 {Ls : Nat} {xs : Nat → Int32} : am_tbl Ls xs 161 51 = some (o_puti 4 3) := (m_161 51).trans rfl
theorem t_161_54 {Ls : Nat} {xs : Nat → Int32} : am_tbl Ls xs 161 54 = some (o_push (.int 1) 1) := (m_161 54).trans rfl
theorem t_161_55 {Ls : Nat} {xs : Nat → Int32} : am_tbl Ls xs 161 55 = some (o_zret) := (m_161 55).trans rfl
theorem m_163 {Ls : Nat} {xs : Nat → Int32} (pc : Nat) : am_tbl Ls xs 163 pc = am_lk (op_X4_first) pc := rfl
theorem t_163_0 {Ls : Nat} {xs : Nat → Int32} : am_tbl Ls xs 163 0 = some (o_iload 1 1) := (m_163 0).trans rfl
theorem t_163_1 {Ls : Nat} {xs : Nat → Int32} : am_tbl Ls xs 163 1 = some (o_if (fun x => decide (x < 0)) 21) := (m_163 1).trans rfl
theorem t_163_4 {Ls : Nat} {xs : Nat → Int32} : am_tbl Ls xs 163 4 = some (o_iload 1 1) := (m_163 4).trans rfl
theorem t_163_5 {Ls : Nat} {xs : Nat → Int32} : am_tbl Ls xs 163 5 = some (o_aload 0 1) := (m_163 5).trans rfl
theorem t_163_6 {Ls : Nat} {xs : Nat → Int32} : am_tbl Ls xs 163 6 = some (o_get 4 3) := (m_163 6).trans rfl
theorem t_163_9 {Ls : Nat} {xs : Nat → Int32} : am_tbl Ls xs 163 9 = some (o_icmp (fun x y => decide (y ≤ x)) 21) := (m_163 9).trans rfl
theorem t_163_12 {Ls : Nat} {xs : Nat → Int32} : am_tbl Ls xs 163 12 = some (o_aload 0 1) := (m_163 12).trans rfl
theorem t_163_13 {Ls : Nat} {xs : Nat → Int32} : am_tbl Ls xs 163 13 = some (o_get 4 0) := (m_163 13).trans rfl
theorem t_163_16 {Ls : Nat} {xs : Nat → Int32} : am_tbl Ls xs 163 16 = some (o_iload 1 1) := (m_163 16).trans rfl
theorem t_163_17 {Ls : Nat} {xs : Nat → Int32} : am_tbl Ls xs 163 17 = some (o_iald 1) := (m_163 17).trans rfl
theorem t_163_18 {Ls : Nat} {xs : Nat → Int32} : am_tbl Ls xs 163 18 = some (o_goto 22) := (m_163 18).trans rfl
theorem t_163_21 {Ls : Nat} {xs : Nat → Int32} : am_tbl Ls xs 163 21 = some (o_nrm [] (o_push (.int (-1)) 1)) := (m_163 21).trans rfl
theorem t_163_22 {Ls : Nat} {xs : Nat → Int32} : am_tbl Ls xs 163 22 = some (o_nrm [] (o_iret)) := (m_163 22).trans rfl
