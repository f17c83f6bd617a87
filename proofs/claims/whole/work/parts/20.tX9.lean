/-! THE TABLES BY PLACE -/
theorem m_1 {Ls : Nat} {xs : Nat → Int32} (pc : Nat) : am_tbl Ls xs 1 pc = am_lk (op_X9_in) pc := rfl
theorem t_1_0 {Ls : Nat} {xs : Nat → Int32} : am_tbl Ls xs 1 0 = some (o_lload 0 1) := (m_1 0).trans rfl
theorem t_1_1 {Ls : Nat} {xs : Nat → Int32} : am_tbl Ls xs 1 1 = some (o_lload 2 1) := (m_1 1).trans rfl
theorem t_1_2 {Ls : Nat} {xs : Nat → Int32} : am_tbl Ls xs 1 2 = some (o_lcmp) := (m_1 2).trans rfl
theorem t_1_3 {Ls : Nat} {xs : Nat → Int32} : am_tbl Ls xs 1 3 = some (o_if (fun x => decide (x < 0)) 17) := (m_1 3).trans rfl
theorem t_1_6 {Ls : Nat} {xs : Nat → Int32} : am_tbl Ls xs 1 6 = some (o_lload 0 1) := (m_1 6).trans rfl
theorem t_1_7 {Ls : Nat} {xs : Nat → Int32} : am_tbl Ls xs 1 7 = some (o_lload 4 2) := (m_1 7).trans rfl
theorem t_1_9 {Ls : Nat} {xs : Nat → Int32} : am_tbl Ls xs 1 9 = some (o_lcmp) := (m_1 9).trans rfl
theorem t_1_10 {Ls : Nat} {xs : Nat → Int32} : am_tbl Ls xs 1 10 = some (o_if (fun x => decide (0 < x)) 17) := (m_1 10).trans rfl
theorem t_1_13 {Ls : Nat} {xs : Nat → Int32} : am_tbl Ls xs 1 13 = some (o_push (.int 1) 1) := (m_1 13).trans rfl
theorem t_1_14 {Ls : Nat} {xs : Nat → Int32} : am_tbl Ls xs 1 14 = some (o_goto 18) := (m_1 14).trans rfl
theorem t_1_17 {Ls : Nat} {xs : Nat → Int32} : am_tbl Ls xs 1 17 = some (o_nrm [] (o_push (.int 0) 1)) := (m_1 17).trans rfl
theorem t_1_18 {Ls : Nat} {xs : Nat → Int32} : am_tbl Ls xs 1 18 = some (o_nrm [] (o_zret)) := (m_1 18).trans rfl
theorem m_2 {Ls : Nat} {xs : Nat → Int32} (pc : Nat) : am_tbl Ls xs 2 pc = am_lk (op_X9_has) pc := rfl
theorem t_2_0 {Ls : Nat} {xs : Nat → Int32} : am_tbl Ls xs 2 0 = some (o_lload 0 1) := (m_2 0).trans rfl
theorem t_2_1 {Ls : Nat} {xs : Nat → Int32} : am_tbl Ls xs 2 1 = some (o_iload 2 1) := (m_2 1).trans rfl
theorem t_2_2 {Ls : Nat} {xs : Nat → Int32} : am_tbl Ls xs 2 2 = some (o_lsh (fun x y => x >>> (y.toInt64 &&& 63))) := (m_2 2).trans rfl
theorem t_2_3 {Ls : Nat} {xs : Nat → Int32} : am_tbl Ls xs 2 3 = some (o_push (.long 1) 1) := (m_2 3).trans rfl
theorem t_2_4 {Ls : Nat} {xs : Nat → Int32} : am_tbl Ls xs 2 4 = some (o_lbin (fun x y => x &&& y)) := (m_2 4).trans rfl
theorem t_2_5 {Ls : Nat} {xs : Nat → Int32} : am_tbl Ls xs 2 5 = some (o_push (.long 1) 1) := (m_2 5).trans rfl
theorem t_2_6 {Ls : Nat} {xs : Nat → Int32} : am_tbl Ls xs 2 6 = some (o_lcmp) := (m_2 6).trans rfl
theorem t_2_7 {Ls : Nat} {xs : Nat → Int32} : am_tbl Ls xs 2 7 = some (o_if (fun x => decide (x ≠ 0)) 14) := (m_2 7).trans rfl
theorem t_2_10 {Ls : Nat} {xs : Nat → Int32} : am_tbl Ls xs 2 10 = some (o_push (.int 1) 1) := (m_2 10).trans rfl
theorem t_2_11 {Ls : Nat} {xs : Nat → Int32} : am_tbl Ls xs 2 11 = some (o_goto 15) := (m_2 11).trans rfl
theorem t_2_14 {Ls : Nat} {xs : Nat → Int32} : am_tbl Ls xs 2 14 = some (o_push (.int 0) 1) := (m_2 14).trans rfl
theorem t_2_15 {Ls : Nat} {xs : Nat → Int32} : am_tbl Ls xs 2 15 = some (o_nrm [] (o_zret)) := (m_2 15).trans rfl
theorem m_3 {Ls : Nat} {xs : Nat → Int32} (pc : Nat) : am_tbl Ls xs 3 pc = am_lk (op_X9_bits) pc := rfl
theorem t_3_0 {Ls : Nat} {xs : Nat → Int32} : am_tbl Ls xs 3 0 = some (o_push (.int 0) 1) := (m_3 0).trans rfl
theorem t_3_1 {Ls : Nat} {xs : Nat → Int32} : am_tbl Ls xs 3 1 = some (o_istore 2 1) := (m_3 1).trans rfl
theorem t_3_2 {Ls : Nat} {xs : Nat → Int32} : am_tbl Ls xs 3 2 = some (o_push (.int 0) 1) := (m_3 2).trans rfl
theorem t_3_3 {Ls : Nat} {xs : Nat → Int32} : am_tbl Ls xs 3 3 = some (o_istore 3 1) := (m_3 3).trans rfl
theorem t_3_4 {Ls : Nat} {xs : Nat → Int32} : am_tbl Ls xs 3 4 = some (o_nrm [0, 2, 3] (o_iload 3 1)) := (m_3 4).trans rfl
theorem t_3_5 {Ls : Nat} {xs : Nat → Int32} : am_tbl Ls xs 3 5 = some (o_push (.int 48) 2) := (m_3 5).trans rfl
theorem t_3_7 {Ls : Nat} {xs : Nat → Int32} : am_tbl Ls xs 3 7 = some (o_icmp (fun x y => decide (y ≤ x)) 25) := (m_3 7).trans rfl
theorem t_3_10 {Ls : Nat} {xs : Nat → Int32} : am_tbl Ls xs 3 10 = some (o_iload 2 1) := (m_3 10).trans rfl
theorem t_3_11 {Ls : Nat} {xs : Nat → Int32} : am_tbl Ls xs 3 11 = some (o_lload 0 1) := (m_3 11).trans rfl
theorem t_3_12 {Ls : Nat} {xs : Nat → Int32} : am_tbl Ls xs 3 12 = some (o_iload 3 1) := (m_3 12).trans rfl
theorem t_3_13 {Ls : Nat} {xs : Nat → Int32} : am_tbl Ls xs 3 13 = some (o_lsh (fun x y => x >>> (y.toInt64 &&& 63))) := (m_3 13).trans rfl
theorem t_3_14 {Ls : Nat} {xs : Nat → Int32} : am_tbl Ls xs 3 14 = some (o_push (.long 1) 1) := (m_3 14).trans rfl
theorem t_3_15 {Ls : Nat} {xs : Nat → Int32} : am_tbl Ls xs 3 15 = some (o_lbin (fun x y => x &&& y)) := (m_3 15).trans rfl
theorem t_3_16 {Ls : Nat} {xs : Nat → Int32} : am_tbl Ls xs 3 16 = some (o_l2i) := (m_3 16).trans rfl
theorem t_3_17 {Ls : Nat} {xs : Nat → Int32} : am_tbl Ls xs 3 17 = some (o_ibin (fun x y => x + y)) := (m_3 17).trans rfl
theorem t_3_18 {Ls : Nat} {xs : Nat → Int32} : am_tbl Ls xs 3 18 = some (o_istore 2 1) := (m_3 18).trans rfl
theorem t_3_19 {Ls : Nat} {xs : Nat → Int32} : am_tbl Ls xs 3 19 = some (o_iinc 3 1) := (m_3 19).trans rfl
theorem t_3_22 {Ls : Nat} {xs : Nat → Int32} : am_tbl Ls xs 3 22 = some (o_goto 4) := (m_3 22).trans rfl
theorem t_3_25 {Ls : Nat} {xs : Nat → Int32} : am_tbl Ls xs 3 25 = some (o_iload 2 1) := (m_3 25).trans rfl
theorem t_3_26 {Ls : Nat} {xs : Nat → Int32} : am_tbl Ls xs 3 26 = some (o_iret) := (m_3 26).trans rfl
theorem m_4 {Ls : Nat} {xs : Nat → Int32} (pc : Nat) : am_tbl Ls xs 4 pc = am_lk (op_X9_isCell) pc := rfl
theorem t_4_0 {Ls : Nat} {xs : Nat → Int32} : am_tbl Ls xs 4 0 = some (o_iload 1 1) := (m_4 0).trans rfl
theorem t_4_1 {Ls : Nat} {xs : Nat → Int32} : am_tbl Ls xs 4 1 = some (o_i2l) := (m_4 1).trans rfl
theorem t_4_2 {Ls : Nat} {xs : Nat → Int32} : am_tbl Ls xs 4 2 = some (o_push (.long 0) 1) := (m_4 2).trans rfl
theorem t_4_3 {Ls : Nat} {xs : Nat → Int32} : am_tbl Ls xs 4 3 = some (o_aload 0 1) := (m_4 3).trans rfl
theorem t_4_4 {Ls : Nat} {xs : Nat → Int32} : am_tbl Ls xs 4 4 = some (o_get 9 0) := (m_4 4).trans rfl
theorem t_4_7 {Ls : Nat} {xs : Nat → Int32} : am_tbl Ls xs 4 7 = some (o_push (.int 1) 1) := (m_4 7).trans rfl
theorem t_4_8 {Ls : Nat} {xs : Nat → Int32} : am_tbl Ls xs 4 8 = some (o_ibin (fun x y => x - y)) := (m_4 8).trans rfl
theorem t_4_9 {Ls : Nat} {xs : Nat → Int32} : am_tbl Ls xs 4 9 = some (o_i2l) := (m_4 9).trans rfl
theorem t_4_10 {Ls : Nat} {xs : Nat → Int32} : am_tbl Ls xs 4 10 = some (o_calls 1 3 6) := (m_4 10).trans rfl
theorem t_4_13 {Ls : Nat} {xs : Nat → Int32} : am_tbl Ls xs 4 13 = some (o_if (fun x => decide (x = 0)) 36) := (m_4 13).trans rfl
theorem t_4_16 {Ls : Nat} {xs : Nat → Int32} : am_tbl Ls xs 4 16 = some (o_iload 2 1) := (m_4 16).trans rfl
theorem t_4_17 {Ls : Nat} {xs : Nat → Int32} : am_tbl Ls xs 4 17 = some (o_i2l) := (m_4 17).trans rfl
theorem t_4_18 {Ls : Nat} {xs : Nat → Int32} : am_tbl Ls xs 4 18 = some (o_push (.long 0) 1) := (m_4 18).trans rfl
theorem t_4_19 {Ls : Nat} {xs : Nat → Int32} : am_tbl Ls xs 4 19 = some (o_aload 0 1) := (m_4 19).trans rfl
theorem t_4_20 {Ls : Nat} {xs : Nat → Int32} : am_tbl Ls xs 4 20 = some (o_get 9 1) := (m_4 20).trans rfl
theorem t_4_23 {Ls : Nat} {xs : Nat → Int32} : am_tbl Ls xs 4 23 = some (o_push (.int 1) 1) := (m_4 23).trans rfl
theorem t_4_24 {Ls : Nat} {xs : Nat → Int32} : am_tbl Ls xs 4 24 = some (o_ibin (fun x y => x - y)) := (m_4 24).trans rfl
theorem t_4_25 {Ls : Nat} {xs : Nat → Int32} : am_tbl Ls xs 4 25 = some (o_i2l) := (m_4 25).trans rfl
theorem t_4_26 {Ls : Nat} {xs : Nat → Int32} : am_tbl Ls xs 4 26 = some (o_calls 1 3 6) := (m_4 26).trans rfl
theorem t_4_29 {Ls : Nat} {xs : Nat → Int32} : am_tbl Ls xs 4 29 = some (o_if (fun x => decide (x = 0)) 36) := (m_4 29).trans rfl
theorem t_4_32 {Ls : Nat} {xs : Nat → Int32} : am_tbl Ls xs 4 32 = some (o_push (.int 1) 1) := (m_4 32).trans rfl
theorem t_4_33 {Ls : Nat} {xs : Nat → Int32} : am_tbl Ls xs 4 33 = some (o_goto 37) := (m_4 33).trans rfl
theorem t_4_36 {Ls : Nat} {xs : Nat → Int32} : am_tbl Ls xs 4 36 = some (o_nrm [] (o_push (.int 0) 1)) := (m_4 36).trans rfl
theorem t_4_37 {Ls : Nat} {xs : Nat → Int32} : am_tbl Ls xs 4 37 = some (o_nrm [] (o_zret)) := (m_4 37).trans rfl
theorem m_5 {Ls : Nat} {xs : Nat → Int32} (pc : Nat) : am_tbl Ls xs 5 pc = am_lk (op_X9_isPerson) pc := rfl
theorem t_5_0 {Ls : Nat} {xs : Nat → Int32} : am_tbl Ls xs 5 0 = some (o_iload 1 1) := (m_5 0).trans rfl
theorem t_5_1 {Ls : Nat} {xs : Nat → Int32} : am_tbl Ls xs 5 1 = some (o_i2l) := (m_5 1).trans rfl
theorem t_5_2 {Ls : Nat} {xs : Nat → Int32} : am_tbl Ls xs 5 2 = some (o_push (.long 0) 1) := (m_5 2).trans rfl
theorem t_5_3 {Ls : Nat} {xs : Nat → Int32} : am_tbl Ls xs 5 3 = some (o_aload 0 1) := (m_5 3).trans rfl
theorem t_5_4 {Ls : Nat} {xs : Nat → Int32} : am_tbl Ls xs 5 4 = some (o_get 9 8) := (m_5 4).trans rfl
theorem t_5_7 {Ls : Nat} {xs : Nat → Int32} : am_tbl Ls xs 5 7 = some (o_push (.int 1) 1) := (m_5 7).trans rfl
theorem t_5_8 {Ls : Nat} {xs : Nat → Int32} : am_tbl Ls xs 5 8 = some (o_ibin (fun x y => x - y)) := (m_5 8).trans rfl
theorem t_5_9 {Ls : Nat} {xs : Nat → Int32} : am_tbl Ls xs 5 9 = some (o_i2l) := (m_5 9).trans rfl
theorem t_5_10 {Ls : Nat} {xs : Nat → Int32} : am_tbl Ls xs 5 10 = some (o_calls 1 3 6) := (m_5 10).trans rfl
theorem t_5_13 {Ls : Nat} {xs : Nat → Int32} : am_tbl Ls xs 5 13 = some (o_zret) := (m_5 13).trans rfl
theorem m_6 {Ls : Nat} {xs : Nat → Int32} (pc : Nat) : am_tbl Ls xs 6 pc = am_lk (op_X9_isHour) pc := rfl
theorem t_6_0 {Ls : Nat} {xs : Nat → Int32} : am_tbl Ls xs 6 0 = some (o_iload 1 1) := (m_6 0).trans rfl
theorem t_6_1 {Ls : Nat} {xs : Nat → Int32} : am_tbl Ls xs 6 1 = some (o_i2l) := (m_6 1).trans rfl
theorem t_6_2 {Ls : Nat} {xs : Nat → Int32} : am_tbl Ls xs 6 2 = some (o_push (.long 0) 1) := (m_6 2).trans rfl
theorem t_6_3 {Ls : Nat} {xs : Nat → Int32} : am_tbl Ls xs 6 3 = some (o_aload 0 1) := (m_6 3).trans rfl
theorem t_6_4 {Ls : Nat} {xs : Nat → Int32} : am_tbl Ls xs 6 4 = some (o_get 9 3) := (m_6 4).trans rfl
theorem t_6_7 {Ls : Nat} {xs : Nat → Int32} : am_tbl Ls xs 6 7 = some (o_push (.int 1) 1) := (m_6 7).trans rfl
theorem t_6_8 {Ls : Nat} {xs : Nat → Int32} : am_tbl Ls xs 6 8 = some (o_ibin (fun x y => x - y)) := (m_6 8).trans rfl
theorem t_6_9 {Ls : Nat} {xs : Nat → Int32} : am_tbl Ls xs 6 9 = some (o_i2l) := (m_6 9).trans rfl
theorem t_6_10 {Ls : Nat} {xs : Nat → Int32} : am_tbl Ls xs 6 10 = some (o_calls 1 3 6) := (m_6 10).trans rfl
theorem t_6_13 {Ls : Nat} {xs : Nat → Int32} : am_tbl Ls xs 6 13 = some (o_zret) := (m_6 13).trans rfl
theorem m_7 {Ls : Nat} {xs : Nat → Int32} (pc : Nat) : am_tbl Ls xs 7 pc = am_lk (op_X9_cells) pc := rfl
theorem t_7_0 {Ls : Nat} {xs : Nat → Int32} : am_tbl Ls xs 7 0 = some (o_aload 0 1) := (m_7 0).trans rfl
theorem t_7_1 {Ls : Nat} {xs : Nat → Int32} : am_tbl Ls xs 7 1 = some (o_get 9 0) := (m_7 1).trans rfl
theorem t_7_4 {Ls : Nat} {xs : Nat → Int32} : am_tbl Ls xs 7 4 = some (o_aload 0 1) := (m_7 4).trans rfl
theorem t_7_5 {Ls : Nat} {xs : Nat → Int32} : am_tbl Ls xs 7 5 = some (o_get 9 1) := (m_7 5).trans rfl
theorem t_7_8 {Ls : Nat} {xs : Nat → Int32} : am_tbl Ls xs 7 8 = some (o_ibin (fun x y => x * y)) := (m_7 8).trans rfl
theorem t_7_9 {Ls : Nat} {xs : Nat → Int32} : am_tbl Ls xs 7 9 = some (o_iret) := (m_7 9).trans rfl
theorem m_8 {Ls : Nat} {xs : Nat → Int32} (pc : Nat) : am_tbl Ls xs 8 pc = am_lk (op_X9_told10) pc := rfl
theorem t_8_0 {Ls : Nat} {xs : Nat → Int32} : am_tbl Ls xs 8 0 = some (o_push (.int 10) 2) := (m_8 0).trans rfl
theorem t_8_2 {Ls : Nat} {xs : Nat → Int32} : am_tbl Ls xs 8 2 = some (o_iload 1 1) := (m_8 2).trans rfl
theorem t_8_3 {Ls : Nat} {xs : Nat → Int32} : am_tbl Ls xs 8 3 = some (o_aload 0 1) := (m_8 3).trans rfl
theorem t_8_4 {Ls : Nat} {xs : Nat → Int32} : am_tbl Ls xs 8 4 = some (o_get 9 0) := (m_8 4).trans rfl
theorem t_8_7 {Ls : Nat} {xs : Nat → Int32} : am_tbl Ls xs 8 7 = some (o_idv (fun x y => x - x / y * y)) := (m_8 7).trans rfl
theorem t_8_8 {Ls : Nat} {xs : Nat → Int32} : am_tbl Ls xs 8 8 = some (o_ibin (fun x y => x * y)) := (m_8 8).trans rfl
theorem t_8_9 {Ls : Nat} {xs : Nat → Int32} : am_tbl Ls xs 8 9 = some (o_iload 1 1) := (m_8 9).trans rfl
theorem t_8_10 {Ls : Nat} {xs : Nat → Int32} : am_tbl Ls xs 8 10 = some (o_aload 0 1) := (m_8 10).trans rfl
theorem t_8_11 {Ls : Nat} {xs : Nat → Int32} : am_tbl Ls xs 8 11 = some (o_get 9 0) := (m_8 11).trans rfl
theorem t_8_14 {Ls : Nat} {xs : Nat → Int32} : am_tbl Ls xs 8 14 = some (o_idv (fun x y => x / y)) := (m_8 14).trans rfl
theorem t_8_15 {Ls : Nat} {xs : Nat → Int32} : am_tbl Ls xs 8 15 = some (o_ibin (fun x y => x + y)) := (m_8 15).trans rfl
theorem t_8_16 {Ls : Nat} {xs : Nat → Int32} : am_tbl Ls xs 8 16 = some (o_iret) := (m_8 16).trans rfl
theorem m_9 {Ls : Nat} {xs : Nat → Int32} (pc : Nat) : am_tbl Ls xs 9 pc = am_lk (op_X9_feed) pc := rfl
theorem t_9_0 {Ls : Nat} {xs : Nat → Int32} : am_tbl Ls xs 9 0 = some (o_iload 1 1) := (m_9 0).trans rfl
theorem t_9_1 {Ls : Nat} {xs : Nat → Int32} : am_tbl Ls xs 9 1 = some (o_i2l) := (m_9 1).trans rfl
theorem t_9_2 {Ls : Nat} {xs : Nat → Int32} : am_tbl Ls xs 9 2 = some (o_push (.long 1) 1) := (m_9 2).trans rfl
theorem t_9_3 {Ls : Nat} {xs : Nat → Int32} : am_tbl Ls xs 9 3 = some (o_push (.long 8) 3) := (m_9 3).trans rfl
theorem t_9_6 {Ls : Nat} {xs : Nat → Int32} : am_tbl Ls xs 9 6 = some (o_calls 1 3 6) := (m_9 6).trans rfl
theorem t_9_9 {Ls : Nat} {xs : Nat → Int32} : am_tbl Ls xs 9 9 = some (o_if (fun x => decide (x ≠ 0)) 15) := (m_9 9).trans rfl
theorem t_9_12 {Ls : Nat} {xs : Nat → Int32} : am_tbl Ls xs 9 12 = some (o_push (.int (-1000000002)) 2) := (m_9 12).trans rfl
theorem t_9_14 {Ls : Nat} {xs : Nat → Int32} : am_tbl Ls xs 9 14 = some (o_iret) := (m_9 14).trans rfl
theorem t_9_15 {Ls : Nat} {xs : Nat → Int32} : am_tbl Ls xs 9 15 = some (o_aload 0 1) := (m_9 15).trans rfl
theorem t_9_16 {Ls : Nat} {xs : Nat → Int32} : am_tbl Ls xs 9 16 = some (o_get 9 18) := (m_9 16).trans rfl
theorem t_9_19 {Ls : Nat} {xs : Nat → Int32} : am_tbl Ls xs 9 19 = some (o_iload 1 1) := (m_9 19).trans rfl
theorem t_9_20 {Ls : Nat} {xs : Nat → Int32} : am_tbl Ls xs 9 20 = some (o_ibin (fun x y => x + y)) := (m_9 20).trans rfl
theorem t_9_21 {Ls : Nat} {xs : Nat → Int32} : am_tbl Ls xs 9 21 = some (o_push (.int 500) 3) := (m_9 21).trans rfl
theorem t_9_24 {Ls : Nat} {xs : Nat → Int32} : am_tbl Ls xs 9 24 = some (o_icmp (fun x y => decide (x ≤ y)) 30) := (m_9 24).trans rfl
theorem t_9_27 {Ls : Nat} {xs : Nat → Int32} : am_tbl Ls xs 9 27 = some (o_push (.int (-1000000004)) 2) := (m_9 27).trans rfl
theorem t_9_29 {Ls : Nat} {xs : Nat → Int32} : am_tbl Ls xs 9 29 = some (o_iret) := (m_9 29).trans rfl
theorem t_9_30 {Ls : Nat} {xs : Nat → Int32} : am_tbl Ls xs 9 30 = some (o_iload 1 1) := (m_9 30).trans rfl
theorem t_9_31 {Ls : Nat} {xs : Nat → Int32} : am_tbl Ls xs 9 31 = some (o_push (.int 1) 1) := (m_9 31).trans rfl
theorem t_9_32 {Ls : Nat} {xs : Nat → Int32} : am_tbl Ls xs 9 32 = some (o_ibin (fun x y => x - y)) := (m_9 32).trans rfl
theorem t_9_33 {Ls : Nat} {xs : Nat → Int32} : am_tbl Ls xs 9 33 = some (o_istore 4 2) := (m_9 33).trans rfl
theorem t_9_35 {Ls : Nat} {xs : Nat → Int32} : am_tbl Ls xs 9 35 = some (o_nrm [0, 2, 4] (o_iload 4 2)) := (m_9 35).trans rfl
theorem t_9_37 {Ls : Nat} {xs : Nat → Int32} : am_tbl Ls xs 9 37 = some (o_if (fun x => decide (x < 0)) 77) := (m_9 37).trans rfl
theorem t_9_40 {Ls : Nat} {xs : Nat → Int32} : am_tbl Ls xs 9 40 = some (o_aload 0 1) := (m_9 40).trans rfl
theorem t_9_41 {Ls : Nat} {xs : Nat → Int32} : am_tbl Ls xs 9 41 = some (o_get 9 17) := (m_9 41).trans rfl
theorem t_9_44 {Ls : Nat} {xs : Nat → Int32} : am_tbl Ls xs 9 44 = some (o_aload 0 1) := (m_9 44).trans rfl
theorem t_9_45 {Ls : Nat} {xs : Nat → Int32} : am_tbl Ls xs 9 45 = some (o_get 9 18) := (m_9 45).trans rfl
theorem t_9_48 {Ls : Nat} {xs : Nat → Int32} : am_tbl Ls xs 9 48 = some (o_lload 2 1) := (m_9 48).trans rfl
theorem t_9_49 {Ls : Nat} {xs : Nat → Int32} : am_tbl Ls xs 9 49 = some (o_push (.int 8) 2) := (m_9 49).trans rfl
theorem t_9_51 {Ls : Nat} {xs : Nat → Int32} : am_tbl Ls xs 9 51 = some (o_iload 4 2) := (m_9 51).trans rfl
theorem t_9_53 {Ls : Nat} {xs : Nat → Int32} : am_tbl Ls xs 9 53 = some (o_ibin (fun x y => x * y)) := (m_9 53).trans rfl
theorem t_9_54 {Ls : Nat} {xs : Nat → Int32} : am_tbl Ls xs 9 54 = some (o_lsh (fun x y => x >>> (y.toInt64 &&& 63))) := (m_9 54).trans rfl
theorem t_9_55 {Ls : Nat} {xs : Nat → Int32} : am_tbl Ls xs 9 55 = some (o_push (.long 255) 3) := (m_9 55).trans rfl
theorem t_9_58 {Ls : Nat} {xs : Nat → Int32} : am_tbl Ls xs 9 58 = some (o_lbin (fun x y => x &&& y)) := (m_9 58).trans rfl
theorem t_9_59 {Ls : Nat} {xs : Nat → Int32} : am_tbl Ls xs 9 59 = some (o_l2i) := (m_9 59).trans rfl
theorem t_9_60 {Ls : Nat} {xs : Nat → Int32} : am_tbl Ls xs 9 60 = some (o_iast 1 (fun x => x)) := (m_9 60).trans rfl
theorem t_9_61 {Ls : Nat} {xs : Nat → Int32} : am_tbl Ls xs 9 61 = some (o_aload 0 1) := (m_9 61).trans rfl
theorem t_9_62 {Ls : Nat} {xs : Nat → Int32} : am_tbl Ls xs 9 62 = some (o_dup) := (m_9 62).trans rfl
theorem t_9_63 {Ls : Nat} {xs : Nat → Int32} : am_tbl Ls xs 9 63 = some (o_get 9 18) := (m_9 63).trans rfl
theorem t_9_66 {Ls : Nat} {xs : Nat → Int32} : am_tbl Ls xs 9 66 = some (o_push (.int 1) 1) := (m_9 66).trans rfl
theorem t_9_67 {Ls : Nat} {xs : Nat → Int32} : am_tbl Ls xs 9 67 = some (o_ibin (fun x y => x + y)) := (m_9 67).trans rfl
theorem t_9_68 {Ls : Nat} {xs : Nat → Int32} : am_tbl Ls xs 9 68 = some (o_puti 9 18) := (m_9 68).trans rfl
theorem t_9_71 {Ls : Nat} {xs : Nat → Int32} : am_tbl Ls xs 9 71 = some (o_iinc 4 (-1)) := (m_9 71).trans rfl
theorem t_9_74 {Ls : Nat} {xs : Nat → Int32} : am_tbl Ls xs 9 74 = some (o_goto 35) := (m_9 74).trans rfl
theorem t_9_77 {Ls : Nat} {xs : Nat → Int32} : am_tbl Ls xs 9 77 = some (o_aload 0 1) := (m_9 77).trans rfl
theorem t_9_78 {Ls : Nat} {xs : Nat → Int32} : am_tbl Ls xs 9 78 = some (o_get 9 18) := (m_9 78).trans rfl
theorem t_9_81 {Ls : Nat} {xs : Nat → Int32} : am_tbl Ls xs 9 81 = some (o_iret) := (m_9 81).trans rfl
theorem m_10 {Ls : Nat} {xs : Nat → Int32} (pc : Nat) : am_tbl Ls xs 10 pc = am_lk (op_X9_here) pc := rfl
theorem t_10_0 {Ls : Nat} {xs : Nat → Int32} : am_tbl Ls xs 10 0 = some (o_nrm [0] (o_aload 0 1)) := (m_10 0).trans rfl
theorem t_10_1 {Ls : Nat} {xs : Nat → Int32} : am_tbl Ls xs 10 1 = some (o_get 9 20) := (m_10 1).trans rfl
theorem t_10_4 {Ls : Nat} {xs : Nat → Int32} : am_tbl Ls xs 10 4 = some (o_aload 0 1) := (m_10 4).trans rfl
theorem t_10_5 {Ls : Nat} {xs : Nat → Int32} : am_tbl Ls xs 10 5 = some (o_get 9 18) := (m_10 5).trans rfl
theorem t_10_8 {Ls : Nat} {xs : Nat → Int32} : am_tbl Ls xs 10 8 = some (o_icmp (fun x y => decide (y ≤ x)) 38) := (m_10 8).trans rfl
theorem t_10_11 {Ls : Nat} {xs : Nat → Int32} : am_tbl Ls xs 10 11 = some (o_aload 0 1) := (m_10 11).trans rfl
theorem t_10_12 {Ls : Nat} {xs : Nat → Int32} : am_tbl Ls xs 10 12 = some (o_get 9 17) := (m_10 12).trans rfl
theorem t_10_15 {Ls : Nat} {xs : Nat → Int32} : am_tbl Ls xs 10 15 = some (o_aload 0 1) := (m_10 15).trans rfl
theorem t_10_16 {Ls : Nat} {xs : Nat → Int32} : am_tbl Ls xs 10 16 = some (o_get 9 20) := (m_10 16).trans rfl
theorem t_10_19 {Ls : Nat} {xs : Nat → Int32} : am_tbl Ls xs 10 19 = some (o_iald 1) := (m_10 19).trans rfl
theorem t_10_20 {Ls : Nat} {xs : Nat → Int32} : am_tbl Ls xs 10 20 = some (o_push (.int 32) 2) := (m_10 20).trans rfl
theorem t_10_22 {Ls : Nat} {xs : Nat → Int32} : am_tbl Ls xs 10 22 = some (o_icmp (fun x y => decide (x ≠ y)) 38) := (m_10 22).trans rfl
theorem t_10_25 {Ls : Nat} {xs : Nat → Int32} : am_tbl Ls xs 10 25 = some (o_aload 0 1) := (m_10 25).trans rfl
theorem t_10_26 {Ls : Nat} {xs : Nat → Int32} : am_tbl Ls xs 10 26 = some (o_dup) := (m_10 26).trans rfl
theorem t_10_27 {Ls : Nat} {xs : Nat → Int32} : am_tbl Ls xs 10 27 = some (o_get 9 20) := (m_10 27).trans rfl
theorem t_10_30 {Ls : Nat} {xs : Nat → Int32} : am_tbl Ls xs 10 30 = some (o_push (.int 1) 1) := (m_10 30).trans rfl
theorem t_10_31 {Ls : Nat} {xs : Nat → Int32} : am_tbl Ls xs 10 31 = some (o_ibin (fun x y => x + y)) := (m_10 31).trans rfl
theorem t_10_32 {Ls : Nat} {xs : Nat → Int32} : am_tbl Ls xs 10 32 = some (o_puti 9 20) := (m_10 32).trans rfl
theorem t_10_35 {Ls : Nat} {xs : Nat → Int32} : am_tbl Ls xs 10 35 = some (o_goto 0) := (m_10 35).trans rfl
theorem t_10_38 {Ls : Nat} {xs : Nat → Int32} : am_tbl Ls xs 10 38 = some (o_nrm [0] (o_aload 0 1)) := (m_10 38).trans rfl
theorem t_10_39 {Ls : Nat} {xs : Nat → Int32} : am_tbl Ls xs 10 39 = some (o_get 9 20) := (m_10 39).trans rfl
theorem t_10_42 {Ls : Nat} {xs : Nat → Int32} : am_tbl Ls xs 10 42 = some (o_aload 0 1) := (m_10 42).trans rfl
theorem t_10_43 {Ls : Nat} {xs : Nat → Int32} : am_tbl Ls xs 10 43 = some (o_get 9 18) := (m_10 43).trans rfl
theorem t_10_46 {Ls : Nat} {xs : Nat → Int32} : am_tbl Ls xs 10 46 = some (o_icmp (fun x y => decide (y ≤ x)) 61) := (m_10 46).trans rfl
theorem t_10_49 {Ls : Nat} {xs : Nat → Int32} : am_tbl Ls xs 10 49 = some (o_aload 0 1) := (m_10 49).trans rfl
theorem t_10_50 {Ls : Nat} {xs : Nat → Int32} : am_tbl Ls xs 10 50 = some (o_get 9 17) := (m_10 50).trans rfl
theorem t_10_53 {Ls : Nat} {xs : Nat → Int32} : am_tbl Ls xs 10 53 = some (o_aload 0 1) := (m_10 53).trans rfl
theorem t_10_54 {Ls : Nat} {xs : Nat → Int32} : am_tbl Ls xs 10 54 = some (o_get 9 20) := (m_10 54).trans rfl
theorem t_10_57 {Ls : Nat} {xs : Nat → Int32} : am_tbl Ls xs 10 57 = some (o_iald 1) := (m_10 57).trans rfl
theorem t_10_58 {Ls : Nat} {xs : Nat → Int32} : am_tbl Ls xs 10 58 = some (o_goto 62) := (m_10 58).trans rfl
theorem t_10_61 {Ls : Nat} {xs : Nat → Int32} : am_tbl Ls xs 10 61 = some (o_push (.int (-1)) 1) := (m_10 61).trans rfl
theorem t_10_62 {Ls : Nat} {xs : Nat → Int32} : am_tbl Ls xs 10 62 = some (o_nrm [] (o_iret)) := (m_10 62).trans rfl
theorem m_11 {Ls : Nat} {xs : Nat → Int32} (pc : Nat) : am_tbl Ls xs 11 pc = am_lk (op_X9_fails) pc := rfl
theorem t_11_0 {Ls : Nat} {xs : Nat → Int32} : am_tbl Ls xs 11 0 = some (o_aload 0 1) := (m_11 0).trans rfl
theorem t_11_1 {Ls : Nat} {xs : Nat → Int32} : am_tbl Ls xs 11 1 = some (o_iload 2 1) := (m_11 1).trans rfl
theorem t_11_2 {Ls : Nat} {xs : Nat → Int32} : am_tbl Ls xs 11 2 = some (o_puti 9 19) := (m_11 2).trans rfl
theorem t_11_5 {Ls : Nat} {xs : Nat → Int32} : am_tbl Ls xs 11 5 = some (o_iload 1 1) := (m_11 5).trans rfl
theorem t_11_6 {Ls : Nat} {xs : Nat → Int32} : am_tbl Ls xs 11 6 = some (o_iret) := (m_11 6).trans rfl
theorem m_12 {Ls : Nat} {xs : Nat → Int32} (pc : Nat) : am_tbl Ls xs 12 pc = am_lk (op_X9_readWord) pc := rfl
theorem t_12_0 {Ls : Nat} {xs : Nat → Int32} : am_tbl Ls xs 12 0 = some (o_aload 0 1) := (m_12 0).trans rfl
theorem t_12_1 {Ls : Nat} {xs : Nat → Int32} : am_tbl Ls xs 12 1 = some (o_callv 10 0 9 1) := (m_12 1).trans rfl
theorem t_12_4 {Ls : Nat} {xs : Nat → Int32} : am_tbl Ls xs 12 4 = some (o_istore 1 1) := (m_12 4).trans rfl
theorem t_12_5 {Ls : Nat} {xs : Nat → Int32} : am_tbl Ls xs 12 5 = some (o_aload 0 1) := (m_12 5).trans rfl
theorem t_12_6 {Ls : Nat} {xs : Nat → Int32} : am_tbl Ls xs 12 6 = some (o_push (.long 0) 1) := (m_12 6).trans rfl
theorem t_12_7 {Ls : Nat} {xs : Nat → Int32} : am_tbl Ls xs 12 7 = some (o_putl 9 21) := (m_12 7).trans rfl
theorem t_12_10 {Ls : Nat} {xs : Nat → Int32} : am_tbl Ls xs 12 10 = some (o_aload 0 1) := (m_12 10).trans rfl
theorem t_12_11 {Ls : Nat} {xs : Nat → Int32} : am_tbl Ls xs 12 11 = some (o_aload 0 1) := (m_12 11).trans rfl
theorem t_12_12 {Ls : Nat} {xs : Nat → Int32} : am_tbl Ls xs 12 12 = some (o_get 9 20) := (m_12 12).trans rfl
theorem t_12_15 {Ls : Nat} {xs : Nat → Int32} : am_tbl Ls xs 12 15 = some (o_puti 9 22) := (m_12 15).trans rfl
theorem t_12_18 {Ls : Nat} {xs : Nat → Int32} : am_tbl Ls xs 12 18 = some (o_nrm [0] (o_aload 0 1)) := (m_12 18).trans rfl
theorem t_12_19 {Ls : Nat} {xs : Nat → Int32} : am_tbl Ls xs 12 19 = some (o_get 9 22) := (m_12 19).trans rfl
theorem t_12_22 {Ls : Nat} {xs : Nat → Int32} : am_tbl Ls xs 12 22 = some (o_aload 0 1) := (m_12 22).trans rfl
theorem t_12_23 {Ls : Nat} {xs : Nat → Int32} : am_tbl Ls xs 12 23 = some (o_get 9 18) := (m_12 23).trans rfl
theorem t_12_26 {Ls : Nat} {xs : Nat → Int32} : am_tbl Ls xs 12 26 = some (o_icmp (fun x y => decide (y ≤ x)) 108) := (m_12 26).trans rfl
theorem t_12_29 {Ls : Nat} {xs : Nat → Int32} : am_tbl Ls xs 12 29 = some (o_aload 0 1) := (m_12 29).trans rfl
theorem t_12_30 {Ls : Nat} {xs : Nat → Int32} : am_tbl Ls xs 12 30 = some (o_get 9 17) := (m_12 30).trans rfl
theorem t_12_33 {Ls : Nat} {xs : Nat → Int32} : am_tbl Ls xs 12 33 = some (o_aload 0 1) := (m_12 33).trans rfl
theorem t_12_34 {Ls : Nat} {xs : Nat → Int32} : am_tbl Ls xs 12 34 = some (o_get 9 22) := (m_12 34).trans rfl
theorem t_12_37 {Ls : Nat} {xs : Nat → Int32} : am_tbl Ls xs 12 37 = some (o_iald 1) := (m_12 37).trans rfl
theorem t_12_38 {Ls : Nat} {xs : Nat → Int32} : am_tbl Ls xs 12 38 = some (o_i2l) := (m_12 38).trans rfl
theorem t_12_39 {Ls : Nat} {xs : Nat → Int32} : am_tbl Ls xs 12 39 = some (o_push (.long 97) 3) := (m_12 39).trans rfl
theorem t_12_42 {Ls : Nat} {xs : Nat → Int32} : am_tbl Ls xs 12 42 = some (o_push (.long 122) 3) := (m_12 42).trans rfl
theorem t_12_45 {Ls : Nat} {xs : Nat → Int32} : am_tbl Ls xs 12 45 = some (o_calls 1 3 6) := (m_12 45).trans rfl
theorem t_12_48 {Ls : Nat} {xs : Nat → Int32} : am_tbl Ls xs 12 48 = some (o_if (fun x => decide (x = 0)) 108) := (m_12 48).trans rfl
theorem t_12_51 {Ls : Nat} {xs : Nat → Int32} : am_tbl Ls xs 12 51 = some (o_aload 0 1) := (m_12 51).trans rfl
theorem t_12_52 {Ls : Nat} {xs : Nat → Int32} : am_tbl Ls xs 12 52 = some (o_aload 0 1) := (m_12 52).trans rfl
theorem t_12_53 {Ls : Nat} {xs : Nat → Int32} : am_tbl Ls xs 12 53 = some (o_get 9 21) := (m_12 53).trans rfl
theorem t_12_56 {Ls : Nat} {xs : Nat → Int32} : am_tbl Ls xs 12 56 = some (o_push (.long 10000000000000) 3) := (m_12 56).trans rfl
theorem t_12_59 {Ls : Nat} {xs : Nat → Int32} : am_tbl Ls xs 12 59 = some (o_lcmp) := (m_12 59).trans rfl
theorem t_12_60 {Ls : Nat} {xs : Nat → Int32} : am_tbl Ls xs 12 60 = some (o_if (fun x => decide (x ≤ 0)) 69) := (m_12 60).trans rfl
theorem t_12_63 {Ls : Nat} {xs : Nat → Int32} : am_tbl Ls xs 12 63 = some (o_push (.long 20000000000000) 3) := (m_12 63).trans rfl
theorem t_12_66 {Ls : Nat} {xs : Nat → Int32} : am_tbl Ls xs 12 66 = some (o_goto 92) := (m_12 66).trans rfl
theorem t_12_69 {Ls : Nat} {xs : Nat → Int32} : am_tbl Ls xs 12 69 = some (o_push (.long 27) 3) := (m_12 69).trans rfl
theorem t_12_72 {Ls : Nat} {xs : Nat → Int32} : am_tbl Ls xs 12 72 = some (o_aload 0 1) := (m_12 72).trans rfl
theorem t_12_73 {Ls : Nat} {xs : Nat → Int32} : am_tbl Ls xs 12 73 = some (o_get 9 21) := (m_12 73).trans rfl
theorem t_12_76 {Ls : Nat} {xs : Nat → Int32} : am_tbl Ls xs 12 76 = some (o_lbin (fun x y => x * y)) := (m_12 76).trans rfl
theorem t_12_77 {Ls : Nat} {xs : Nat → Int32} : am_tbl Ls xs 12 77 = some (o_aload 0 1) := (m_12 77).trans rfl
theorem t_12_78 {Ls : Nat} {xs : Nat → Int32} : am_tbl Ls xs 12 78 = some (o_get 9 17) := (m_12 78).trans rfl
theorem t_12_81 {Ls : Nat} {xs : Nat → Int32} : am_tbl Ls xs 12 81 = some (o_aload 0 1) := (m_12 81).trans rfl
theorem t_12_82 {Ls : Nat} {xs : Nat → Int32} : am_tbl Ls xs 12 82 = some (o_get 9 22) := (m_12 82).trans rfl
theorem t_12_85 {Ls : Nat} {xs : Nat → Int32} : am_tbl Ls xs 12 85 = some (o_iald 1) := (m_12 85).trans rfl
theorem t_12_86 {Ls : Nat} {xs : Nat → Int32} : am_tbl Ls xs 12 86 = some (o_i2l) := (m_12 86).trans rfl
theorem t_12_87 {Ls : Nat} {xs : Nat → Int32} : am_tbl Ls xs 12 87 = some (o_lbin (fun x y => x + y)) := (m_12 87).trans rfl
theorem t_12_88 {Ls : Nat} {xs : Nat → Int32} : am_tbl Ls xs 12 88 = some (o_push (.long 96) 3) := (m_12 88).trans rfl
theorem t_12_91 {Ls : Nat} {xs : Nat → Int32} : am_tbl Ls xs 12 91 = some (o_lbin (fun x y => x - y)) := (m_12 91).trans rfl
theorem t_12_92 {Ls : Nat} {xs : Nat → Int32} : am_tbl Ls xs 12 92 = some (o_nrm [0] (o_putl 9 21)) := (m_12 92).trans rfl
theorem t_12_95 {Ls : Nat} {xs : Nat → Int32} : am_tbl Ls xs 12 95 = some (o_aload 0 1) := (m_12 95).trans rfl
theorem t_12_96 {Ls : Nat} {xs : Nat → Int32} : am_tbl Ls xs 12 96 = some (o_dup) := (m_12 96).trans rfl
theorem t_12_97 {Ls : Nat} {xs : Nat → Int32} : am_tbl Ls xs 12 97 = some (o_get 9 22) := (m_12 97).trans rfl
theorem t_12_100 {Ls : Nat} {xs : Nat → Int32} : am_tbl Ls xs 12 100 = some (o_push (.int 1) 1) := (m_12 100).trans rfl
theorem t_12_101 {Ls : Nat} {xs : Nat → Int32} : am_tbl Ls xs 12 101 = some (o_ibin (fun x y => x + y)) := (m_12 101).trans rfl
theorem t_12_102 {Ls : Nat} {xs : Nat → Int32} : am_tbl Ls xs 12 102 = some (o_puti 9 22) := (m_12 102).trans rfl
theorem t_12_105 {Ls : Nat} {xs : Nat → Int32} : am_tbl Ls xs 12 105 = some (o_goto 18) := (m_12 105).trans rfl
theorem t_12_108 {Ls : Nat} {xs : Nat → Int32} : am_tbl Ls xs 12 108 = some (o_nrm [] (o_vret)) := (m_12 108).trans rfl
theorem m_13 {Ls : Nat} {xs : Nat → Int32} (pc : Nat) : am_tbl Ls xs 13 pc = am_lk (op_X9_code) pc := rfl
theorem t_13_0 {Ls : Nat} {xs : Nat → Int32} : am_tbl Ls xs 13 0 = some (o_push (.long 27) 3) := (m_13 0).trans rfl
theorem t_13_3 {Ls : Nat} {xs : Nat → Int32} : am_tbl Ls xs 13 3 = some (o_push (.long 27) 3) := (m_13 3).trans rfl
theorem t_13_6 {Ls : Nat} {xs : Nat → Int32} : am_tbl Ls xs 13 6 = some (o_iload 0 1) := (m_13 6).trans rfl
theorem t_13_7 {Ls : Nat} {xs : Nat → Int32} : am_tbl Ls xs 13 7 = some (o_i2l) := (m_13 7).trans rfl
theorem t_13_8 {Ls : Nat} {xs : Nat → Int32} : am_tbl Ls xs 13 8 = some (o_push (.long 96) 3) := (m_13 8).trans rfl
theorem t_13_11 {Ls : Nat} {xs : Nat → Int32} : am_tbl Ls xs 13 11 = some (o_lbin (fun x y => x - y)) := (m_13 11).trans rfl
theorem t_13_12 {Ls : Nat} {xs : Nat → Int32} : am_tbl Ls xs 13 12 = some (o_lbin (fun x y => x * y)) := (m_13 12).trans rfl
theorem t_13_13 {Ls : Nat} {xs : Nat → Int32} : am_tbl Ls xs 13 13 = some (o_iload 1 1) := (m_13 13).trans rfl
theorem t_13_14 {Ls : Nat} {xs : Nat → Int32} : am_tbl Ls xs 13 14 = some (o_i2l) := (m_13 14).trans rfl
theorem t_13_15 {Ls : Nat} {xs : Nat → Int32} : am_tbl Ls xs 13 15 = some (o_lbin (fun x y => x + y)) := (m_13 15).trans rfl
theorem t_13_16 {Ls : Nat} {xs : Nat → Int32} : am_tbl Ls xs 13 16 = some (o_push (.long 96) 3) := (m_13 16).trans rfl
theorem t_13_19 {Ls : Nat} {xs : Nat → Int32} : am_tbl Ls xs 13 19 = some (o_lbin (fun x y => x - y)) := (m_13 19).trans rfl
theorem t_13_20 {Ls : Nat} {xs : Nat → Int32} : am_tbl Ls xs 13 20 = some (o_lbin (fun x y => x * y)) := (m_13 20).trans rfl
theorem t_13_21 {Ls : Nat} {xs : Nat → Int32} : am_tbl Ls xs 13 21 = some (o_iload 2 1) := (m_13 21).trans rfl
theorem t_13_22 {Ls : Nat} {xs : Nat → Int32} : am_tbl Ls xs 13 22 = some (o_i2l) := (m_13 22).trans rfl
theorem t_13_23 {Ls : Nat} {xs : Nat → Int32} : am_tbl Ls xs 13 23 = some (o_lbin (fun x y => x + y)) := (m_13 23).trans rfl
theorem t_13_24 {Ls : Nat} {xs : Nat → Int32} : am_tbl Ls xs 13 24 = some (o_push (.long 96) 3) := (m_13 24).trans rfl
theorem t_13_27 {Ls : Nat} {xs : Nat → Int32} : am_tbl Ls xs 13 27 = some (o_lbin (fun x y => x - y)) := (m_13 27).trans rfl
theorem t_13_28 {Ls : Nat} {xs : Nat → Int32} : am_tbl Ls xs 13 28 = some (o_lret) := (m_13 28).trans rfl
theorem m_14 {Ls : Nat} {xs : Nat → Int32} (pc : Nat) : am_tbl Ls xs 14 pc = am_lk (op_X9_longer) pc := rfl
theorem t_14_0 {Ls : Nat} {xs : Nat → Int32} : am_tbl Ls xs 14 0 = some (o_iload 3 1) := (m_14 0).trans rfl
theorem t_14_1 {Ls : Nat} {xs : Nat → Int32} : am_tbl Ls xs 14 1 = some (o_if (fun x => decide (x ≠ 0)) 19) := (m_14 1).trans rfl
theorem t_14_4 {Ls : Nat} {xs : Nat → Int32} : am_tbl Ls xs 14 4 = some (o_push (.long 27) 3) := (m_14 4).trans rfl
theorem t_14_7 {Ls : Nat} {xs : Nat → Int32} : am_tbl Ls xs 14 7 = some (o_lload 0 1) := (m_14 7).trans rfl
theorem t_14_8 {Ls : Nat} {xs : Nat → Int32} : am_tbl Ls xs 14 8 = some (o_lbin (fun x y => x * y)) := (m_14 8).trans rfl
theorem t_14_9 {Ls : Nat} {xs : Nat → Int32} : am_tbl Ls xs 14 9 = some (o_iload 2 1) := (m_14 9).trans rfl
theorem t_14_10 {Ls : Nat} {xs : Nat → Int32} : am_tbl Ls xs 14 10 = some (o_i2l) := (m_14 10).trans rfl
theorem t_14_11 {Ls : Nat} {xs : Nat → Int32} : am_tbl Ls xs 14 11 = some (o_lbin (fun x y => x + y)) := (m_14 11).trans rfl
theorem t_14_12 {Ls : Nat} {xs : Nat → Int32} : am_tbl Ls xs 14 12 = some (o_push (.long 96) 3) := (m_14 12).trans rfl
theorem t_14_15 {Ls : Nat} {xs : Nat → Int32} : am_tbl Ls xs 14 15 = some (o_lbin (fun x y => x - y)) := (m_14 15).trans rfl
theorem t_14_16 {Ls : Nat} {xs : Nat → Int32} : am_tbl Ls xs 14 16 = some (o_goto 42) := (m_14 16).trans rfl
theorem t_14_19 {Ls : Nat} {xs : Nat → Int32} : am_tbl Ls xs 14 19 = some (o_push (.long 27) 3) := (m_14 19).trans rfl
theorem t_14_22 {Ls : Nat} {xs : Nat → Int32} : am_tbl Ls xs 14 22 = some (o_push (.long 27) 3) := (m_14 22).trans rfl
theorem t_14_25 {Ls : Nat} {xs : Nat → Int32} : am_tbl Ls xs 14 25 = some (o_lload 0 1) := (m_14 25).trans rfl
theorem t_14_26 {Ls : Nat} {xs : Nat → Int32} : am_tbl Ls xs 14 26 = some (o_lbin (fun x y => x * y)) := (m_14 26).trans rfl
theorem t_14_27 {Ls : Nat} {xs : Nat → Int32} : am_tbl Ls xs 14 27 = some (o_iload 2 1) := (m_14 27).trans rfl
theorem t_14_28 {Ls : Nat} {xs : Nat → Int32} : am_tbl Ls xs 14 28 = some (o_i2l) := (m_14 28).trans rfl
theorem t_14_29 {Ls : Nat} {xs : Nat → Int32} : am_tbl Ls xs 14 29 = some (o_lbin (fun x y => x + y)) := (m_14 29).trans rfl
theorem t_14_30 {Ls : Nat} {xs : Nat → Int32} : am_tbl Ls xs 14 30 = some (o_push (.long 96) 3) := (m_14 30).trans rfl
theorem t_14_33 {Ls : Nat} {xs : Nat → Int32} : am_tbl Ls xs 14 33 = some (o_lbin (fun x y => x - y)) := (m_14 33).trans rfl
theorem t_14_34 {Ls : Nat} {xs : Nat → Int32} : am_tbl Ls xs 14 34 = some (o_lbin (fun x y => x * y)) := (m_14 34).trans rfl
theorem t_14_35 {Ls : Nat} {xs : Nat → Int32} : am_tbl Ls xs 14 35 = some (o_iload 3 1) := (m_14 35).trans rfl
theorem t_14_36 {Ls : Nat} {xs : Nat → Int32} : am_tbl Ls xs 14 36 = some (o_i2l) := (m_14 36).trans rfl
theorem t_14_37 {Ls : Nat} {xs : Nat → Int32} : am_tbl Ls xs 14 37 = some (o_lbin (fun x y => x + y)) := (m_14 37).trans rfl
theorem t_14_38 {Ls : Nat} {xs : Nat → Int32} : am_tbl Ls xs 14 38 = some (o_push (.long 96) 3) := (m_14 38).trans rfl
theorem t_14_41 {Ls : Nat} {xs : Nat → Int32} : am_tbl Ls xs 14 41 = some (o_lbin (fun x y => x - y)) := (m_14 41).trans rfl
theorem t_14_42 {Ls : Nat} {xs : Nat → Int32} : am_tbl Ls xs 14 42 = some (o_nrm [] (o_lret)) := (m_14 42).trans rfl
theorem m_15 {Ls : Nat} {xs : Nat → Int32} (pc : Nat) : am_tbl Ls xs 15 pc = am_lk (op_X9_takeNumber) pc := rfl
theorem t_15_0 {Ls : Nat} {xs : Nat → Int32} : am_tbl Ls xs 15 0 = some (o_aload 0 1) := (m_15 0).trans rfl
theorem t_15_1 {Ls : Nat} {xs : Nat → Int32} : am_tbl Ls xs 15 1 = some (o_callv 10 0 9 1) := (m_15 1).trans rfl
theorem t_15_4 {Ls : Nat} {xs : Nat → Int32} : am_tbl Ls xs 15 4 = some (o_istore 3 1) := (m_15 4).trans rfl
theorem t_15_5 {Ls : Nat} {xs : Nat → Int32} : am_tbl Ls xs 15 5 = some (o_iload 3 1) := (m_15 5).trans rfl
theorem t_15_6 {Ls : Nat} {xs : Nat → Int32} : am_tbl Ls xs 15 6 = some (o_i2l) := (m_15 6).trans rfl
theorem t_15_7 {Ls : Nat} {xs : Nat → Int32} : am_tbl Ls xs 15 7 = some (o_push (.long 48) 3) := (m_15 7).trans rfl
theorem t_15_10 {Ls : Nat} {xs : Nat → Int32} : am_tbl Ls xs 15 10 = some (o_push (.long 57) 3) := (m_15 10).trans rfl
theorem t_15_13 {Ls : Nat} {xs : Nat → Int32} : am_tbl Ls xs 15 13 = some (o_calls 1 3 6) := (m_15 13).trans rfl
theorem t_15_16 {Ls : Nat} {xs : Nat → Int32} : am_tbl Ls xs 15 16 = some (o_if (fun x => decide (x ≠ 0)) 29) := (m_15 16).trans rfl
theorem t_15_19 {Ls : Nat} {xs : Nat → Int32} : am_tbl Ls xs 15 19 = some (o_aload 0 1) := (m_15 19).trans rfl
theorem t_15_20 {Ls : Nat} {xs : Nat → Int32} : am_tbl Ls xs 15 20 = some (o_push (.int 1) 1) := (m_15 20).trans rfl
theorem t_15_21 {Ls : Nat} {xs : Nat → Int32} : am_tbl Ls xs 15 21 = some (o_aload 0 1) := (m_15 21).trans rfl
theorem t_15_22 {Ls : Nat} {xs : Nat → Int32} : am_tbl Ls xs 15 22 = some (o_get 9 20) := (m_15 22).trans rfl
theorem t_15_25 {Ls : Nat} {xs : Nat → Int32} : am_tbl Ls xs 15 25 = some (o_callv 11 2 9 3) := (m_15 25).trans rfl
theorem t_15_28 {Ls : Nat} {xs : Nat → Int32} : am_tbl Ls xs 15 28 = some (o_iret) := (m_15 28).trans rfl
theorem t_15_29 {Ls : Nat} {xs : Nat → Int32} : am_tbl Ls xs 15 29 = some (o_aload 0 1) := (m_15 29).trans rfl
theorem t_15_30 {Ls : Nat} {xs : Nat → Int32} : am_tbl Ls xs 15 30 = some (o_aload 0 1) := (m_15 30).trans rfl
theorem t_15_31 {Ls : Nat} {xs : Nat → Int32} : am_tbl Ls xs 15 31 = some (o_get 9 20) := (m_15 31).trans rfl
theorem t_15_34 {Ls : Nat} {xs : Nat → Int32} : am_tbl Ls xs 15 34 = some (o_puti 9 24) := (m_15 34).trans rfl
theorem t_15_37 {Ls : Nat} {xs : Nat → Int32} : am_tbl Ls xs 15 37 = some (o_aload 0 1) := (m_15 37).trans rfl
theorem t_15_38 {Ls : Nat} {xs : Nat → Int32} : am_tbl Ls xs 15 38 = some (o_push (.int 0) 1) := (m_15 38).trans rfl
theorem t_15_39 {Ls : Nat} {xs : Nat → Int32} : am_tbl Ls xs 15 39 = some (o_puti 9 23) := (m_15 39).trans rfl
theorem t_15_42 {Ls : Nat} {xs : Nat → Int32} : am_tbl Ls xs 15 42 = some (o_nrm [0, 1, 2] (o_aload 0 1)) := (m_15 42).trans rfl
theorem t_15_43 {Ls : Nat} {xs : Nat → Int32} : am_tbl Ls xs 15 43 = some (o_get 9 20) := (m_15 43).trans rfl
theorem t_15_46 {Ls : Nat} {xs : Nat → Int32} : am_tbl Ls xs 15 46 = some (o_aload 0 1) := (m_15 46).trans rfl
theorem t_15_47 {Ls : Nat} {xs : Nat → Int32} : am_tbl Ls xs 15 47 = some (o_get 9 18) := (m_15 47).trans rfl
theorem t_15_50 {Ls : Nat} {xs : Nat → Int32} : am_tbl Ls xs 15 50 = some (o_icmp (fun x y => decide (y ≤ x)) 129) := (m_15 50).trans rfl
theorem t_15_53 {Ls : Nat} {xs : Nat → Int32} : am_tbl Ls xs 15 53 = some (o_aload 0 1) := (m_15 53).trans rfl
theorem t_15_54 {Ls : Nat} {xs : Nat → Int32} : am_tbl Ls xs 15 54 = some (o_get 9 17) := (m_15 54).trans rfl
theorem t_15_57 {Ls : Nat} {xs : Nat → Int32} : am_tbl Ls xs 15 57 = some (o_aload 0 1) := (m_15 57).trans rfl
theorem t_15_58 {Ls : Nat} {xs : Nat → Int32} : am_tbl Ls xs 15 58 = some (o_get 9 20) := (m_15 58).trans rfl
theorem t_15_61 {Ls : Nat} {xs : Nat → Int32} : am_tbl Ls xs 15 61 = some (o_iald 1) := (m_15 61).trans rfl
theorem t_15_62 {Ls : Nat} {xs : Nat → Int32} : am_tbl Ls xs 15 62 = some (o_i2l) := (m_15 62).trans rfl
theorem t_15_63 {Ls : Nat} {xs : Nat → Int32} : am_tbl Ls xs 15 63 = some (o_push (.long 48) 3) := (m_15 63).trans rfl
theorem t_15_66 {Ls : Nat} {xs : Nat → Int32} : am_tbl Ls xs 15 66 = some (o_push (.long 57) 3) := (m_15 66).trans rfl
theorem t_15_69 {Ls : Nat} {xs : Nat → Int32} : am_tbl Ls xs 15 69 = some (o_calls 1 3 6) := (m_15 69).trans rfl
theorem t_15_72 {Ls : Nat} {xs : Nat → Int32} : am_tbl Ls xs 15 72 = some (o_if (fun x => decide (x = 0)) 129) := (m_15 72).trans rfl
theorem t_15_75 {Ls : Nat} {xs : Nat → Int32} : am_tbl Ls xs 15 75 = some (o_aload 0 1) := (m_15 75).trans rfl
theorem t_15_76 {Ls : Nat} {xs : Nat → Int32} : am_tbl Ls xs 15 76 = some (o_aload 0 1) := (m_15 76).trans rfl
theorem t_15_77 {Ls : Nat} {xs : Nat → Int32} : am_tbl Ls xs 15 77 = some (o_get 9 23) := (m_15 77).trans rfl
theorem t_15_80 {Ls : Nat} {xs : Nat → Int32} : am_tbl Ls xs 15 80 = some (o_push (.int 10000) 3) := (m_15 80).trans rfl
theorem t_15_83 {Ls : Nat} {xs : Nat → Int32} : am_tbl Ls xs 15 83 = some (o_icmp (fun x y => decide (x ≤ y)) 93) := (m_15 83).trans rfl
theorem t_15_86 {Ls : Nat} {xs : Nat → Int32} : am_tbl Ls xs 15 86 = some (o_aload 0 1) := (m_15 86).trans rfl
theorem t_15_87 {Ls : Nat} {xs : Nat → Int32} : am_tbl Ls xs 15 87 = some (o_get 9 23) := (m_15 87).trans rfl
theorem t_15_90 {Ls : Nat} {xs : Nat → Int32} : am_tbl Ls xs 15 90 = some (o_goto 113) := (m_15 90).trans rfl
theorem t_15_93 {Ls : Nat} {xs : Nat → Int32} : am_tbl Ls xs 15 93 = some (o_push (.int 10) 2) := (m_15 93).trans rfl
theorem t_15_95 {Ls : Nat} {xs : Nat → Int32} : am_tbl Ls xs 15 95 = some (o_aload 0 1) := (m_15 95).trans rfl
theorem t_15_96 {Ls : Nat} {xs : Nat → Int32} : am_tbl Ls xs 15 96 = some (o_get 9 23) := (m_15 96).trans rfl
theorem t_15_99 {Ls : Nat} {xs : Nat → Int32} : am_tbl Ls xs 15 99 = some (o_ibin (fun x y => x * y)) := (m_15 99).trans rfl
theorem t_15_100 {Ls : Nat} {xs : Nat → Int32} : am_tbl Ls xs 15 100 = some (o_aload 0 1) := (m_15 100).trans rfl
theorem t_15_101 {Ls : Nat} {xs : Nat → Int32} : am_tbl Ls xs 15 101 = some (o_get 9 17) := (m_15 101).trans rfl
theorem t_15_104 {Ls : Nat} {xs : Nat → Int32} : am_tbl Ls xs 15 104 = some (o_aload 0 1) := (m_15 104).trans rfl
theorem t_15_105 {Ls : Nat} {xs : Nat → Int32} : am_tbl Ls xs 15 105 = some (o_get 9 20) := (m_15 105).trans rfl
theorem t_15_108 {Ls : Nat} {xs : Nat → Int32} : am_tbl Ls xs 15 108 = some (o_iald 1) := (m_15 108).trans rfl
theorem t_15_109 {Ls : Nat} {xs : Nat → Int32} : am_tbl Ls xs 15 109 = some (o_ibin (fun x y => x + y)) := (m_15 109).trans rfl
theorem t_15_110 {Ls : Nat} {xs : Nat → Int32} : am_tbl Ls xs 15 110 = some (o_push (.int 48) 2) := (m_15 110).trans rfl
theorem t_15_112 {Ls : Nat} {xs : Nat → Int32} : am_tbl Ls xs 15 112 = some (o_ibin (fun x y => x - y)) := (m_15 112).trans rfl
theorem t_15_113 {Ls : Nat} {xs : Nat → Int32} : am_tbl Ls xs 15 113 = some (o_nrm [0, 1, 2] (o_puti 9 23)) := (m_15 113).trans rfl
theorem t_15_116 {Ls : Nat} {xs : Nat → Int32} : am_tbl Ls xs 15 116 = some (o_aload 0 1) := (m_15 116).trans rfl
theorem t_15_117 {Ls : Nat} {xs : Nat → Int32} : am_tbl Ls xs 15 117 = some (o_dup) := (m_15 117).trans rfl
theorem t_15_118 {Ls : Nat} {xs : Nat → Int32} : am_tbl Ls xs 15 118 = some (o_get 9 20) := (m_15 118).trans rfl
set_option maxRecDepth 20000 in
theorem t_15_121 {Ls : Nat} {xs : Nat → Int32} : am_tbl Ls xs 15 121 = some (o_push (.int 1) 1) := (m_15 121).trans rfl
set_option maxRecDepth 20000 in
theorem t_15_122 {Ls : Nat} {xs : Nat → Int32} : am_tbl Ls xs 15 122 = some (o_ibin (fun x y => x + y)) := (m_15 122).trans rfl
set_option maxRecDepth 20000 in
theorem t_15_123 {Ls : Nat} {xs : Nat → Int32} : am_tbl Ls xs 15 123 = some (o_puti 9 20) := (m_15 123).trans rfl
set_option maxRecDepth 20000 in
theorem t_15_126 {Ls : Nat} {xs : Nat → Int32} : am_tbl Ls xs 15 126 = some (o_goto 42) := (m_15 126).trans rfl
set_option maxRecDepth 20000 in
theorem t_15_129 {Ls : Nat} {xs : Nat → Int32} : am_tbl Ls xs 15 129 = some (o_nrm [0, 1, 2] (o_aload 0 1)) := (m_15 129).trans rfl
set_option maxRecDepth 20000 in
theorem t_15_130 {Ls : Nat} {xs : Nat → Int32} : am_tbl Ls xs 15 130 = some (o_get 9 20) := (m_15 130).trans rfl
set_option maxRecDepth 20000 in
theorem t_15_133 {Ls : Nat} {xs : Nat → Int32} : am_tbl Ls xs 15 133 = some (o_aload 0 1) := (m_15 133).trans rfl
set_option maxRecDepth 20000 in
theorem t_15_134 {Ls : Nat} {xs : Nat → Int32} : am_tbl Ls xs 15 134 = some (o_get 9 24) := (m_15 134).trans rfl
set_option maxRecDepth 20000 in
theorem t_15_137 {Ls : Nat} {xs : Nat → Int32} : am_tbl Ls xs 15 137 = some (o_ibin (fun x y => x - y)) := (m_15 137).trans rfl
set_option maxRecDepth 20000 in
theorem t_15_138 {Ls : Nat} {xs : Nat → Int32} : am_tbl Ls xs 15 138 = some (o_push (.int 3) 1) := (m_15 138).trans rfl
set_option maxRecDepth 20000 in
theorem t_15_139 {Ls : Nat} {xs : Nat → Int32} : am_tbl Ls xs 15 139 = some (o_icmp (fun x y => decide (y < x)) 157) := (m_15 139).trans rfl
set_option maxRecDepth 20000 in
theorem t_15_142 {Ls : Nat} {xs : Nat → Int32} : am_tbl Ls xs 15 142 = some (o_aload 0 1) := (m_15 142).trans rfl
set_option maxRecDepth 20000 in
theorem t_15_143 {Ls : Nat} {xs : Nat → Int32} : am_tbl Ls xs 15 143 = some (o_get 9 23) := (m_15 143).trans rfl
set_option maxRecDepth 20000 in
theorem t_15_146 {Ls : Nat} {xs : Nat → Int32} : am_tbl Ls xs 15 146 = some (o_i2l) := (m_15 146).trans rfl
set_option maxRecDepth 20000 in
theorem t_15_147 {Ls : Nat} {xs : Nat → Int32} : am_tbl Ls xs 15 147 = some (o_iload 1 1) := (m_15 147).trans rfl
set_option maxRecDepth 20000 in
theorem t_15_148 {Ls : Nat} {xs : Nat → Int32} : am_tbl Ls xs 15 148 = some (o_i2l) := (m_15 148).trans rfl
set_option maxRecDepth 20000 in
theorem t_15_149 {Ls : Nat} {xs : Nat → Int32} : am_tbl Ls xs 15 149 = some (o_iload 2 1) := (m_15 149).trans rfl
set_option maxRecDepth 20000 in
theorem t_15_150 {Ls : Nat} {xs : Nat → Int32} : am_tbl Ls xs 15 150 = some (o_i2l) := (m_15 150).trans rfl
set_option maxRecDepth 20000 in
theorem t_15_151 {Ls : Nat} {xs : Nat → Int32} : am_tbl Ls xs 15 151 = some (o_calls 1 3 6) := (m_15 151).trans rfl
set_option maxRecDepth 20000 in
theorem t_15_154 {Ls : Nat} {xs : Nat → Int32} : am_tbl Ls xs 15 154 = some (o_if (fun x => decide (x ≠ 0)) 169) := (m_15 154).trans rfl
set_option maxRecDepth 20000 in
theorem t_15_157 {Ls : Nat} {xs : Nat → Int32} : am_tbl Ls xs 15 157 = some (o_nrm [0] (o_aload 0 1)) := (m_15 157).trans rfl
set_option maxRecDepth 20000 in
theorem t_15_158 {Ls : Nat} {xs : Nat → Int32} : am_tbl Ls xs 15 158 = some (o_push (.int 2) 1) := (m_15 158).trans rfl
set_option maxRecDepth 20000 in
theorem t_15_159 {Ls : Nat} {xs : Nat → Int32} : am_tbl Ls xs 15 159 = some (o_aload 0 1) := (m_15 159).trans rfl
set_option maxRecDepth 20000 in
theorem t_15_160 {Ls : Nat} {xs : Nat → Int32} : am_tbl Ls xs 15 160 = some (o_get 9 24) := (m_15 160).trans rfl
set_option maxRecDepth 20000 in
theorem t_15_163 {Ls : Nat} {xs : Nat → Int32} : am_tbl Ls xs 15 163 = some (o_callv 11 2 9 3) := (m_15 163).trans rfl
set_option maxRecDepth 20000 in
theorem t_15_166 {Ls : Nat} {xs : Nat → Int32} : am_tbl Ls xs 15 166 = some (o_goto 170) := (m_15 166).trans rfl
set_option maxRecDepth 20000 in
theorem t_15_169 {Ls : Nat} {xs : Nat → Int32} : am_tbl Ls xs 15 169 = some (o_push (.int 0) 1) := (m_15 169).trans rfl
set_option maxRecDepth 20000 in
theorem t_15_170 {Ls : Nat} {xs : Nat → Int32} : am_tbl Ls xs 15 170 = some (o_nrm [] (o_iret)) := (m_15 170).trans rfl
theorem m_16 {Ls : Nat} {xs : Nat → Int32} (pc : Nat) : am_tbl Ls xs 16 pc = am_lk (op_X9_into) pc := rfl
theorem t_16_0 {Ls : Nat} {xs : Nat → Int32} : am_tbl Ls xs 16 0 = some (o_aload 0 1) := (m_16 0).trans rfl
theorem t_16_1 {Ls : Nat} {xs : Nat → Int32} : am_tbl Ls xs 16 1 = some (o_iload 3 1) := (m_16 1).trans rfl
theorem t_16_2 {Ls : Nat} {xs : Nat → Int32} : am_tbl Ls xs 16 2 = some (o_iload 4 2) := (m_16 2).trans rfl
theorem t_16_4 {Ls : Nat} {xs : Nat → Int32} : am_tbl Ls xs 16 4 = some (o_callv 15 2 9 4) := (m_16 4).trans rfl
theorem t_16_7 {Ls : Nat} {xs : Nat → Int32} : am_tbl Ls xs 16 7 = some (o_istore 5 2) := (m_16 7).trans rfl
theorem t_16_9 {Ls : Nat} {xs : Nat → Int32} : am_tbl Ls xs 16 9 = some (o_aload 1 1) := (m_16 9).trans rfl
theorem t_16_10 {Ls : Nat} {xs : Nat → Int32} : am_tbl Ls xs 16 10 = some (o_iload 2 1) := (m_16 10).trans rfl
theorem t_16_11 {Ls : Nat} {xs : Nat → Int32} : am_tbl Ls xs 16 11 = some (o_aload 0 1) := (m_16 11).trans rfl
theorem t_16_12 {Ls : Nat} {xs : Nat → Int32} : am_tbl Ls xs 16 12 = some (o_get 9 23) := (m_16 12).trans rfl
theorem t_16_15 {Ls : Nat} {xs : Nat → Int32} : am_tbl Ls xs 16 15 = some (o_iast 1 (fun x => x)) := (m_16 15).trans rfl
theorem t_16_16 {Ls : Nat} {xs : Nat → Int32} : am_tbl Ls xs 16 16 = some (o_iload 5 2) := (m_16 16).trans rfl
theorem t_16_18 {Ls : Nat} {xs : Nat → Int32} : am_tbl Ls xs 16 18 = some (o_iret) := (m_16 18).trans rfl
theorem m_17 {Ls : Nat} {xs : Nat → Int32} (pc : Nat) : am_tbl Ls xs 17 pc = am_lk (op_X9_takeGround) pc := rfl
theorem t_17_0 {Ls : Nat} {xs : Nat → Int32} : am_tbl Ls xs 17 0 = some (o_aload 0 1) := (m_17 0).trans rfl
theorem t_17_1 {Ls : Nat} {xs : Nat → Int32} : am_tbl Ls xs 17 1 = some (o_push (.int 1) 1) := (m_17 1).trans rfl
theorem t_17_2 {Ls : Nat} {xs : Nat → Int32} : am_tbl Ls xs 17 2 = some (o_push (.int 9) 2) := (m_17 2).trans rfl
theorem t_17_4 {Ls : Nat} {xs : Nat → Int32} : am_tbl Ls xs 17 4 = some (o_callv 15 2 9 4) := (m_17 4).trans rfl
theorem t_17_7 {Ls : Nat} {xs : Nat → Int32} : am_tbl Ls xs 17 7 = some (o_istore 1 1) := (m_17 7).trans rfl
theorem t_17_8 {Ls : Nat} {xs : Nat → Int32} : am_tbl Ls xs 17 8 = some (o_aload 0 1) := (m_17 8).trans rfl
theorem t_17_9 {Ls : Nat} {xs : Nat → Int32} : am_tbl Ls xs 17 9 = some (o_get 9 23) := (m_17 9).trans rfl
theorem t_17_12 {Ls : Nat} {xs : Nat → Int32} : am_tbl Ls xs 17 12 = some (o_istore 2 1) := (m_17 12).trans rfl
theorem t_17_13 {Ls : Nat} {xs : Nat → Int32} : am_tbl Ls xs 17 13 = some (o_iload 1 1) := (m_17 13).trans rfl
theorem t_17_14 {Ls : Nat} {xs : Nat → Int32} : am_tbl Ls xs 17 14 = some (o_if (fun x => decide (x ≤ 0)) 21) := (m_17 14).trans rfl
theorem t_17_17 {Ls : Nat} {xs : Nat → Int32} : am_tbl Ls xs 17 17 = some (o_iload 1 1) := (m_17 17).trans rfl
theorem t_17_18 {Ls : Nat} {xs : Nat → Int32} : am_tbl Ls xs 17 18 = some (o_goto 28) := (m_17 18).trans rfl
theorem t_17_21 {Ls : Nat} {xs : Nat → Int32} : am_tbl Ls xs 17 21 = some (o_aload 0 1) := (m_17 21).trans rfl
theorem t_17_22 {Ls : Nat} {xs : Nat → Int32} : am_tbl Ls xs 17 22 = some (o_push (.int 1) 1) := (m_17 22).trans rfl
theorem t_17_23 {Ls : Nat} {xs : Nat → Int32} : am_tbl Ls xs 17 23 = some (o_push (.int 9) 2) := (m_17 23).trans rfl
theorem t_17_25 {Ls : Nat} {xs : Nat → Int32} : am_tbl Ls xs 17 25 = some (o_callv 15 2 9 4) := (m_17 25).trans rfl
theorem t_17_28 {Ls : Nat} {xs : Nat → Int32} : am_tbl Ls xs 17 28 = some (o_nrm [0, 2] (o_istore 1 1)) := (m_17 28).trans rfl
theorem t_17_29 {Ls : Nat} {xs : Nat → Int32} : am_tbl Ls xs 17 29 = some (o_iload 1 1) := (m_17 29).trans rfl
theorem t_17_30 {Ls : Nat} {xs : Nat → Int32} : am_tbl Ls xs 17 30 = some (o_if (fun x => decide (x ≤ 0)) 35) := (m_17 30).trans rfl
theorem t_17_33 {Ls : Nat} {xs : Nat → Int32} : am_tbl Ls xs 17 33 = some (o_iload 1 1) := (m_17 33).trans rfl
theorem t_17_34 {Ls : Nat} {xs : Nat → Int32} : am_tbl Ls xs 17 34 = some (o_iret) := (m_17 34).trans rfl
theorem t_17_35 {Ls : Nat} {xs : Nat → Int32} : am_tbl Ls xs 17 35 = some (o_iload 2 1) := (m_17 35).trans rfl
theorem t_17_36 {Ls : Nat} {xs : Nat → Int32} : am_tbl Ls xs 17 36 = some (o_aload 0 1) := (m_17 36).trans rfl
theorem t_17_37 {Ls : Nat} {xs : Nat → Int32} : am_tbl Ls xs 17 37 = some (o_get 9 23) := (m_17 37).trans rfl
theorem t_17_40 {Ls : Nat} {xs : Nat → Int32} : am_tbl Ls xs 17 40 = some (o_ibin (fun x y => x * y)) := (m_17 40).trans rfl
theorem t_17_41 {Ls : Nat} {xs : Nat → Int32} : am_tbl Ls xs 17 41 = some (o_push (.int 48) 2) := (m_17 41).trans rfl
theorem t_17_43 {Ls : Nat} {xs : Nat → Int32} : am_tbl Ls xs 17 43 = some (o_icmp (fun x y => decide (x ≤ y)) 56) := (m_17 43).trans rfl
theorem t_17_46 {Ls : Nat} {xs : Nat → Int32} : am_tbl Ls xs 17 46 = some (o_aload 0 1) := (m_17 46).trans rfl
theorem t_17_47 {Ls : Nat} {xs : Nat → Int32} : am_tbl Ls xs 17 47 = some (o_push (.int 2) 1) := (m_17 47).trans rfl
theorem t_17_48 {Ls : Nat} {xs : Nat → Int32} : am_tbl Ls xs 17 48 = some (o_aload 0 1) := (m_17 48).trans rfl
theorem t_17_49 {Ls : Nat} {xs : Nat → Int32} : am_tbl Ls xs 17 49 = some (o_get 9 24) := (m_17 49).trans rfl
theorem t_17_52 {Ls : Nat} {xs : Nat → Int32} : am_tbl Ls xs 17 52 = some (o_callv 11 2 9 3) := (m_17 52).trans rfl
theorem t_17_55 {Ls : Nat} {xs : Nat → Int32} : am_tbl Ls xs 17 55 = some (o_iret) := (m_17 55).trans rfl
theorem t_17_56 {Ls : Nat} {xs : Nat → Int32} : am_tbl Ls xs 17 56 = some (o_aload 0 1) := (m_17 56).trans rfl
theorem t_17_57 {Ls : Nat} {xs : Nat → Int32} : am_tbl Ls xs 17 57 = some (o_iload 2 1) := (m_17 57).trans rfl
theorem t_17_58 {Ls : Nat} {xs : Nat → Int32} : am_tbl Ls xs 17 58 = some (o_puti 9 25) := (m_17 58).trans rfl
theorem t_17_61 {Ls : Nat} {xs : Nat → Int32} : am_tbl Ls xs 17 61 = some (o_aload 0 1) := (m_17 61).trans rfl
theorem t_17_62 {Ls : Nat} {xs : Nat → Int32} : am_tbl Ls xs 17 62 = some (o_aload 0 1) := (m_17 62).trans rfl
theorem t_17_63 {Ls : Nat} {xs : Nat → Int32} : am_tbl Ls xs 17 63 = some (o_get 9 23) := (m_17 63).trans rfl
theorem t_17_66 {Ls : Nat} {xs : Nat → Int32} : am_tbl Ls xs 17 66 = some (o_puti 9 26) := (m_17 66).trans rfl
theorem t_17_69 {Ls : Nat} {xs : Nat → Int32} : am_tbl Ls xs 17 69 = some (o_push (.int 0) 1) := (m_17 69).trans rfl
theorem t_17_70 {Ls : Nat} {xs : Nat → Int32} : am_tbl Ls xs 17 70 = some (o_iret) := (m_17 70).trans rfl
theorem m_18 {Ls : Nat} {xs : Nat → Int32} (pc : Nat) : am_tbl Ls xs 18 pc = am_lk (op_X9_takeCell) pc := rfl
theorem t_18_0 {Ls : Nat} {xs : Nat → Int32} : am_tbl Ls xs 18 0 = some (o_aload 0 1) := (m_18 0).trans rfl
theorem t_18_1 {Ls : Nat} {xs : Nat → Int32} : am_tbl Ls xs 18 1 = some (o_push (.int 0) 1) := (m_18 1).trans rfl
theorem t_18_2 {Ls : Nat} {xs : Nat → Int32} : am_tbl Ls xs 18 2 = some (o_aload 0 1) := (m_18 2).trans rfl
theorem t_18_3 {Ls : Nat} {xs : Nat → Int32} : am_tbl Ls xs 18 3 = some (o_get 9 25) := (m_18 3).trans rfl
theorem t_18_6 {Ls : Nat} {xs : Nat → Int32} : am_tbl Ls xs 18 6 = some (o_push (.int 1) 1) := (m_18 6).trans rfl
theorem t_18_7 {Ls : Nat} {xs : Nat → Int32} : am_tbl Ls xs 18 7 = some (o_ibin (fun x y => x - y)) := (m_18 7).trans rfl
theorem t_18_8 {Ls : Nat} {xs : Nat → Int32} : am_tbl Ls xs 18 8 = some (o_callv 15 2 9 4) := (m_18 8).trans rfl
theorem t_18_11 {Ls : Nat} {xs : Nat → Int32} : am_tbl Ls xs 18 11 = some (o_istore 1 1) := (m_18 11).trans rfl
theorem t_18_12 {Ls : Nat} {xs : Nat → Int32} : am_tbl Ls xs 18 12 = some (o_aload 0 1) := (m_18 12).trans rfl
theorem t_18_13 {Ls : Nat} {xs : Nat → Int32} : am_tbl Ls xs 18 13 = some (o_get 9 23) := (m_18 13).trans rfl
theorem t_18_16 {Ls : Nat} {xs : Nat → Int32} : am_tbl Ls xs 18 16 = some (o_istore 2 1) := (m_18 16).trans rfl
theorem t_18_17 {Ls : Nat} {xs : Nat → Int32} : am_tbl Ls xs 18 17 = some (o_iload 1 1) := (m_18 17).trans rfl
theorem t_18_18 {Ls : Nat} {xs : Nat → Int32} : am_tbl Ls xs 18 18 = some (o_if (fun x => decide (x ≤ 0)) 25) := (m_18 18).trans rfl
theorem t_18_21 {Ls : Nat} {xs : Nat → Int32} : am_tbl Ls xs 18 21 = some (o_iload 1 1) := (m_18 21).trans rfl
theorem t_18_22 {Ls : Nat} {xs : Nat → Int32} : am_tbl Ls xs 18 22 = some (o_goto 36) := (m_18 22).trans rfl
theorem t_18_25 {Ls : Nat} {xs : Nat → Int32} : am_tbl Ls xs 18 25 = some (o_aload 0 1) := (m_18 25).trans rfl
theorem t_18_26 {Ls : Nat} {xs : Nat → Int32} : am_tbl Ls xs 18 26 = some (o_push (.int 0) 1) := (m_18 26).trans rfl
theorem t_18_27 {Ls : Nat} {xs : Nat → Int32} : am_tbl Ls xs 18 27 = some (o_aload 0 1) := (m_18 27).trans rfl
theorem t_18_28 {Ls : Nat} {xs : Nat → Int32} : am_tbl Ls xs 18 28 = some (o_get 9 26) := (m_18 28).trans rfl
theorem t_18_31 {Ls : Nat} {xs : Nat → Int32} : am_tbl Ls xs 18 31 = some (o_push (.int 1) 1) := (m_18 31).trans rfl
theorem t_18_32 {Ls : Nat} {xs : Nat → Int32} : am_tbl Ls xs 18 32 = some (o_ibin (fun x y => x - y)) := (m_18 32).trans rfl
theorem t_18_33 {Ls : Nat} {xs : Nat → Int32} : am_tbl Ls xs 18 33 = some (o_callv 15 2 9 4) := (m_18 33).trans rfl
theorem t_18_36 {Ls : Nat} {xs : Nat → Int32} : am_tbl Ls xs 18 36 = some (o_nrm [0, 2] (o_istore 1 1)) := (m_18 36).trans rfl
theorem t_18_37 {Ls : Nat} {xs : Nat → Int32} : am_tbl Ls xs 18 37 = some (o_aload 0 1) := (m_18 37).trans rfl
theorem t_18_38 {Ls : Nat} {xs : Nat → Int32} : am_tbl Ls xs 18 38 = some (o_aload 0 1) := (m_18 38).trans rfl
theorem t_18_39 {Ls : Nat} {xs : Nat → Int32} : am_tbl Ls xs 18 39 = some (o_get 9 25) := (m_18 39).trans rfl
theorem t_18_42 {Ls : Nat} {xs : Nat → Int32} : am_tbl Ls xs 18 42 = some (o_aload 0 1) := (m_18 42).trans rfl
theorem t_18_43 {Ls : Nat} {xs : Nat → Int32} : am_tbl Ls xs 18 43 = some (o_get 9 23) := (m_18 43).trans rfl
theorem t_18_46 {Ls : Nat} {xs : Nat → Int32} : am_tbl Ls xs 18 46 = some (o_ibin (fun x y => x * y)) := (m_18 46).trans rfl
theorem t_18_47 {Ls : Nat} {xs : Nat → Int32} : am_tbl Ls xs 18 47 = some (o_iload 2 1) := (m_18 47).trans rfl
theorem t_18_48 {Ls : Nat} {xs : Nat → Int32} : am_tbl Ls xs 18 48 = some (o_ibin (fun x y => x + y)) := (m_18 48).trans rfl
theorem t_18_49 {Ls : Nat} {xs : Nat → Int32} : am_tbl Ls xs 18 49 = some (o_puti 9 38) := (m_18 49).trans rfl
theorem t_18_52 {Ls : Nat} {xs : Nat → Int32} : am_tbl Ls xs 18 52 = some (o_iload 1 1) := (m_18 52).trans rfl
theorem t_18_53 {Ls : Nat} {xs : Nat → Int32} : am_tbl Ls xs 18 53 = some (o_iret) := (m_18 53).trans rfl
theorem m_19 {Ls : Nat} {xs : Nat → Int32} (pc : Nat) : am_tbl Ls xs 19 pc = am_lk (op_X9_isReadPerson) pc := rfl
theorem t_19_0 {Ls : Nat} {xs : Nat → Int32} : am_tbl Ls xs 19 0 = some (o_push (.int 0) 1) := (m_19 0).trans rfl
theorem t_19_1 {Ls : Nat} {xs : Nat → Int32} : am_tbl Ls xs 19 1 = some (o_istore 2 1) := (m_19 1).trans rfl
theorem t_19_2 {Ls : Nat} {xs : Nat → Int32} : am_tbl Ls xs 19 2 = some (o_push (.int 0) 1) := (m_19 2).trans rfl
theorem t_19_3 {Ls : Nat} {xs : Nat → Int32} : am_tbl Ls xs 19 3 = some (o_istore 3 1) := (m_19 3).trans rfl
theorem t_19_4 {Ls : Nat} {xs : Nat → Int32} : am_tbl Ls xs 19 4 = some (o_nrm [0, 1, 2, 3] (o_iload 3 1)) := (m_19 4).trans rfl
theorem t_19_5 {Ls : Nat} {xs : Nat → Int32} : am_tbl Ls xs 19 5 = some (o_aload 0 1) := (m_19 5).trans rfl
theorem t_19_6 {Ls : Nat} {xs : Nat → Int32} : am_tbl Ls xs 19 6 = some (o_get 9 34) := (m_19 6).trans rfl
theorem t_19_9 {Ls : Nat} {xs : Nat → Int32} : am_tbl Ls xs 19 9 = some (o_icmp (fun x y => decide (y ≤ x)) 38) := (m_19 9).trans rfl
theorem t_19_12 {Ls : Nat} {xs : Nat → Int32} : am_tbl Ls xs 19 12 = some (o_iload 2 1) := (m_19 12).trans rfl
theorem t_19_13 {Ls : Nat} {xs : Nat → Int32} : am_tbl Ls xs 19 13 = some (o_if (fun x => decide (x ≠ 0)) 26) := (m_19 13).trans rfl
theorem t_19_16 {Ls : Nat} {xs : Nat → Int32} : am_tbl Ls xs 19 16 = some (o_aload 0 1) := (m_19 16).trans rfl
theorem t_19_17 {Ls : Nat} {xs : Nat → Int32} : am_tbl Ls xs 19 17 = some (o_get 9 35) := (m_19 17).trans rfl
theorem t_19_20 {Ls : Nat} {xs : Nat → Int32} : am_tbl Ls xs 19 20 = some (o_iload 3 1) := (m_19 20).trans rfl
theorem t_19_21 {Ls : Nat} {xs : Nat → Int32} : am_tbl Ls xs 19 21 = some (o_iald 1) := (m_19 21).trans rfl
theorem t_19_22 {Ls : Nat} {xs : Nat → Int32} : am_tbl Ls xs 19 22 = some (o_iload 1 1) := (m_19 22).trans rfl
theorem t_19_23 {Ls : Nat} {xs : Nat → Int32} : am_tbl Ls xs 19 23 = some (o_icmp (fun x y => decide (x ≠ y)) 30) := (m_19 23).trans rfl
theorem t_19_26 {Ls : Nat} {xs : Nat → Int32} : am_tbl Ls xs 19 26 = some (o_nrm [0, 1, 3] (o_push (.int 1) 1)) := (m_19 26).trans rfl
theorem t_19_27 {Ls : Nat} {xs : Nat → Int32} : am_tbl Ls xs 19 27 = some (o_goto 31) := (m_19 27).trans rfl
theorem t_19_30 {Ls : Nat} {xs : Nat → Int32} : am_tbl Ls xs 19 30 = some (o_push (.int 0) 1) := (m_19 30).trans rfl
theorem t_19_31 {Ls : Nat} {xs : Nat → Int32} : am_tbl Ls xs 19 31 = some (o_nrm [0, 1, 3] (o_istore 2 1)) := (m_19 31).trans rfl
theorem t_19_32 {Ls : Nat} {xs : Nat → Int32} : am_tbl Ls xs 19 32 = some (o_iinc 3 1) := (m_19 32).trans rfl
theorem t_19_35 {Ls : Nat} {xs : Nat → Int32} : am_tbl Ls xs 19 35 = some (o_goto 4) := (m_19 35).trans rfl
theorem t_19_38 {Ls : Nat} {xs : Nat → Int32} : am_tbl Ls xs 19 38 = some (o_iload 2 1) := (m_19 38).trans rfl
theorem t_19_39 {Ls : Nat} {xs : Nat → Int32} : am_tbl Ls xs 19 39 = some (o_zret) := (m_19 39).trans rfl
theorem m_20 {Ls : Nat} {xs : Nat → Int32} (pc : Nat) : am_tbl Ls xs 20 pc = am_lk (op_X9_takeHouse) pc := rfl
theorem t_20_0 {Ls : Nat} {xs : Nat → Int32} : am_tbl Ls xs 20 0 = some (o_aload 0 1) := (m_20 0).trans rfl
theorem t_20_1 {Ls : Nat} {xs : Nat → Int32} : am_tbl Ls xs 20 1 = some (o_dup) := (m_20 1).trans rfl
theorem t_20_2 {Ls : Nat} {xs : Nat → Int32} : am_tbl Ls xs 20 2 = some (o_get 9 27) := (m_20 2).trans rfl
theorem t_20_5 {Ls : Nat} {xs : Nat → Int32} : am_tbl Ls xs 20 5 = some (o_push (.int 1) 1) := (m_20 5).trans rfl
theorem t_20_6 {Ls : Nat} {xs : Nat → Int32} : am_tbl Ls xs 20 6 = some (o_ibin (fun x y => x + y)) := (m_20 6).trans rfl
theorem t_20_7 {Ls : Nat} {xs : Nat → Int32} : am_tbl Ls xs 20 7 = some (o_puti 9 27) := (m_20 7).trans rfl
theorem t_20_10 {Ls : Nat} {xs : Nat → Int32} : am_tbl Ls xs 20 10 = some (o_aload 0 1) := (m_20 10).trans rfl
theorem t_20_11 {Ls : Nat} {xs : Nat → Int32} : am_tbl Ls xs 20 11 = some (o_callv 18 0 9 3) := (m_20 11).trans rfl
theorem t_20_14 {Ls : Nat} {xs : Nat → Int32} : am_tbl Ls xs 20 14 = some (o_istore 1 1) := (m_20 14).trans rfl
theorem t_20_15 {Ls : Nat} {xs : Nat → Int32} : am_tbl Ls xs 20 15 = some (o_iload 1 1) := (m_20 15).trans rfl
theorem t_20_16 {Ls : Nat} {xs : Nat → Int32} : am_tbl Ls xs 20 16 = some (o_if (fun x => decide (x ≤ 0)) 21) := (m_20 16).trans rfl
theorem t_20_19 {Ls : Nat} {xs : Nat → Int32} : am_tbl Ls xs 20 19 = some (o_iload 1 1) := (m_20 19).trans rfl
theorem t_20_20 {Ls : Nat} {xs : Nat → Int32} : am_tbl Ls xs 20 20 = some (o_iret) := (m_20 20).trans rfl
theorem t_20_21 {Ls : Nat} {xs : Nat → Int32} : am_tbl Ls xs 20 21 = some (o_aload 0 1) := (m_20 21).trans rfl
theorem t_20_22 {Ls : Nat} {xs : Nat → Int32} : am_tbl Ls xs 20 22 = some (o_get 9 28) := (m_20 22).trans rfl
theorem t_20_25 {Ls : Nat} {xs : Nat → Int32} : am_tbl Ls xs 20 25 = some (o_aload 0 1) := (m_20 25).trans rfl
theorem t_20_26 {Ls : Nat} {xs : Nat → Int32} : am_tbl Ls xs 20 26 = some (o_get 9 38) := (m_20 26).trans rfl
theorem t_20_29 {Ls : Nat} {xs : Nat → Int32} : am_tbl Ls xs 20 29 = some (o_iald 1) := (m_20 29).trans rfl
theorem t_20_30 {Ls : Nat} {xs : Nat → Int32} : am_tbl Ls xs 20 30 = some (o_if (fun x => decide (0 < x)) 44) := (m_20 30).trans rfl
theorem t_20_33 {Ls : Nat} {xs : Nat → Int32} : am_tbl Ls xs 20 33 = some (o_aload 0 1) := (m_20 33).trans rfl
theorem t_20_34 {Ls : Nat} {xs : Nat → Int32} : am_tbl Ls xs 20 34 = some (o_aload 0 1) := (m_20 34).trans rfl
theorem t_20_35 {Ls : Nat} {xs : Nat → Int32} : am_tbl Ls xs 20 35 = some (o_get 9 38) := (m_20 35).trans rfl
theorem t_20_38 {Ls : Nat} {xs : Nat → Int32} : am_tbl Ls xs 20 38 = some (o_callv 19 1 9 4) := (m_20 38).trans rfl
theorem t_20_41 {Ls : Nat} {xs : Nat → Int32} : am_tbl Ls xs 20 41 = some (o_if (fun x => decide (x = 0)) 54) := (m_20 41).trans rfl
theorem t_20_44 {Ls : Nat} {xs : Nat → Int32} : am_tbl Ls xs 20 44 = some (o_nrm [0] (o_aload 0 1)) := (m_20 44).trans rfl
theorem t_20_45 {Ls : Nat} {xs : Nat → Int32} : am_tbl Ls xs 20 45 = some (o_push (.int 4) 1) := (m_20 45).trans rfl
theorem t_20_46 {Ls : Nat} {xs : Nat → Int32} : am_tbl Ls xs 20 46 = some (o_aload 0 1) := (m_20 46).trans rfl
theorem t_20_47 {Ls : Nat} {xs : Nat → Int32} : am_tbl Ls xs 20 47 = some (o_get 9 24) := (m_20 47).trans rfl
theorem t_20_50 {Ls : Nat} {xs : Nat → Int32} : am_tbl Ls xs 20 50 = some (o_callv 11 2 9 3) := (m_20 50).trans rfl
theorem t_20_53 {Ls : Nat} {xs : Nat → Int32} : am_tbl Ls xs 20 53 = some (o_iret) := (m_20 53).trans rfl
theorem t_20_54 {Ls : Nat} {xs : Nat → Int32} : am_tbl Ls xs 20 54 = some (o_aload 0 1) := (m_20 54).trans rfl
theorem t_20_55 {Ls : Nat} {xs : Nat → Int32} : am_tbl Ls xs 20 55 = some (o_aload 0 1) := (m_20 55).trans rfl
theorem t_20_56 {Ls : Nat} {xs : Nat → Int32} : am_tbl Ls xs 20 56 = some (o_get 9 28) := (m_20 56).trans rfl
theorem t_20_59 {Ls : Nat} {xs : Nat → Int32} : am_tbl Ls xs 20 59 = some (o_aload 0 1) := (m_20 59).trans rfl
theorem t_20_60 {Ls : Nat} {xs : Nat → Int32} : am_tbl Ls xs 20 60 = some (o_get 9 38) := (m_20 60).trans rfl
theorem t_20_63 {Ls : Nat} {xs : Nat → Int32} : am_tbl Ls xs 20 63 = some (o_push (.int 1) 1) := (m_20 63).trans rfl
theorem t_20_64 {Ls : Nat} {xs : Nat → Int32} : am_tbl Ls xs 20 64 = some (o_push (.int 9) 2) := (m_20 64).trans rfl
theorem t_20_66 {Ls : Nat} {xs : Nat → Int32} : am_tbl Ls xs 20 66 = some (o_callv 16 4 9 6) := (m_20 66).trans rfl
theorem t_20_69 {Ls : Nat} {xs : Nat → Int32} : am_tbl Ls xs 20 69 = some (o_iret) := (m_20 69).trans rfl
theorem m_21 {Ls : Nat} {xs : Nat → Int32} (pc : Nat) : am_tbl Ls xs 21 pc = am_lk (op_X9_takeSun) pc := rfl
theorem t_21_0 {Ls : Nat} {xs : Nat → Int32} : am_tbl Ls xs 21 0 = some (o_aload 0 1) := (m_21 0).trans rfl
theorem t_21_1 {Ls : Nat} {xs : Nat → Int32} : am_tbl Ls xs 21 1 = some (o_get 9 29) := (m_21 1).trans rfl
theorem t_21_4 {Ls : Nat} {xs : Nat → Int32} : am_tbl Ls xs 21 4 = some (o_istore 1 1) := (m_21 4).trans rfl
theorem t_21_5 {Ls : Nat} {xs : Nat → Int32} : am_tbl Ls xs 21 5 = some (o_aload 0 1) := (m_21 5).trans rfl
theorem t_21_6 {Ls : Nat} {xs : Nat → Int32} : am_tbl Ls xs 21 6 = some (o_dup) := (m_21 6).trans rfl
theorem t_21_7 {Ls : Nat} {xs : Nat → Int32} : am_tbl Ls xs 21 7 = some (o_get 9 29) := (m_21 7).trans rfl
theorem t_21_10 {Ls : Nat} {xs : Nat → Int32} : am_tbl Ls xs 21 10 = some (o_push (.int 1) 1) := (m_21 10).trans rfl
theorem t_21_11 {Ls : Nat} {xs : Nat → Int32} : am_tbl Ls xs 21 11 = some (o_ibin (fun x y => x + y)) := (m_21 11).trans rfl
theorem t_21_12 {Ls : Nat} {xs : Nat → Int32} : am_tbl Ls xs 21 12 = some (o_puti 9 29) := (m_21 12).trans rfl
theorem t_21_15 {Ls : Nat} {xs : Nat → Int32} : am_tbl Ls xs 21 15 = some (o_aload 0 1) := (m_21 15).trans rfl
theorem t_21_16 {Ls : Nat} {xs : Nat → Int32} : am_tbl Ls xs 21 16 = some (o_aload 0 1) := (m_21 16).trans rfl
theorem t_21_17 {Ls : Nat} {xs : Nat → Int32} : am_tbl Ls xs 21 17 = some (o_get 9 30) := (m_21 17).trans rfl
theorem t_21_20 {Ls : Nat} {xs : Nat → Int32} : am_tbl Ls xs 21 20 = some (o_iload 1 1) := (m_21 20).trans rfl
theorem t_21_21 {Ls : Nat} {xs : Nat → Int32} : am_tbl Ls xs 21 21 = some (o_push (.int 0) 1) := (m_21 21).trans rfl
theorem t_21_22 {Ls : Nat} {xs : Nat → Int32} : am_tbl Ls xs 21 22 = some (o_push (.int 2) 1) := (m_21 22).trans rfl
theorem t_21_23 {Ls : Nat} {xs : Nat → Int32} : am_tbl Ls xs 21 23 = some (o_callv 16 4 9 6) := (m_21 23).trans rfl
theorem t_21_26 {Ls : Nat} {xs : Nat → Int32} : am_tbl Ls xs 21 26 = some (o_istore 2 1) := (m_21 26).trans rfl
theorem t_21_27 {Ls : Nat} {xs : Nat → Int32} : am_tbl Ls xs 21 27 = some (o_iload 2 1) := (m_21 27).trans rfl
theorem t_21_28 {Ls : Nat} {xs : Nat → Int32} : am_tbl Ls xs 21 28 = some (o_if (fun x => decide (x ≤ 0)) 35) := (m_21 28).trans rfl
theorem t_21_31 {Ls : Nat} {xs : Nat → Int32} : am_tbl Ls xs 21 31 = some (o_iload 2 1) := (m_21 31).trans rfl
theorem t_21_32 {Ls : Nat} {xs : Nat → Int32} : am_tbl Ls xs 21 32 = some (o_goto 46) := (m_21 32).trans rfl
theorem t_21_35 {Ls : Nat} {xs : Nat → Int32} : am_tbl Ls xs 21 35 = some (o_aload 0 1) := (m_21 35).trans rfl
theorem t_21_36 {Ls : Nat} {xs : Nat → Int32} : am_tbl Ls xs 21 36 = some (o_aload 0 1) := (m_21 36).trans rfl
theorem t_21_37 {Ls : Nat} {xs : Nat → Int32} : am_tbl Ls xs 21 37 = some (o_get 9 31) := (m_21 37).trans rfl
theorem t_21_40 {Ls : Nat} {xs : Nat → Int32} : am_tbl Ls xs 21 40 = some (o_iload 1 1) := (m_21 40).trans rfl
theorem t_21_41 {Ls : Nat} {xs : Nat → Int32} : am_tbl Ls xs 21 41 = some (o_push (.int 0) 1) := (m_21 41).trans rfl
theorem t_21_42 {Ls : Nat} {xs : Nat → Int32} : am_tbl Ls xs 21 42 = some (o_push (.int 2) 1) := (m_21 42).trans rfl
theorem t_21_43 {Ls : Nat} {xs : Nat → Int32} : am_tbl Ls xs 21 43 = some (o_callv 16 4 9 6) := (m_21 43).trans rfl
theorem t_21_46 {Ls : Nat} {xs : Nat → Int32} : am_tbl Ls xs 21 46 = some (o_nrm [0, 1] (o_istore 2 1)) := (m_21 46).trans rfl
theorem t_21_47 {Ls : Nat} {xs : Nat → Int32} : am_tbl Ls xs 21 47 = some (o_iload 2 1) := (m_21 47).trans rfl
theorem t_21_48 {Ls : Nat} {xs : Nat → Int32} : am_tbl Ls xs 21 48 = some (o_if (fun x => decide (x ≤ 0)) 53) := (m_21 48).trans rfl
theorem t_21_51 {Ls : Nat} {xs : Nat → Int32} : am_tbl Ls xs 21 51 = some (o_iload 2 1) := (m_21 51).trans rfl
theorem t_21_52 {Ls : Nat} {xs : Nat → Int32} : am_tbl Ls xs 21 52 = some (o_iret) := (m_21 52).trans rfl
theorem t_21_53 {Ls : Nat} {xs : Nat → Int32} : am_tbl Ls xs 21 53 = some (o_aload 0 1) := (m_21 53).trans rfl
theorem t_21_54 {Ls : Nat} {xs : Nat → Int32} : am_tbl Ls xs 21 54 = some (o_get 9 30) := (m_21 54).trans rfl
theorem t_21_57 {Ls : Nat} {xs : Nat → Int32} : am_tbl Ls xs 21 57 = some (o_iload 1 1) := (m_21 57).trans rfl
theorem t_21_58 {Ls : Nat} {xs : Nat → Int32} : am_tbl Ls xs 21 58 = some (o_iald 1) := (m_21 58).trans rfl
theorem t_21_59 {Ls : Nat} {xs : Nat → Int32} : am_tbl Ls xs 21 59 = some (o_push (.int 1) 1) := (m_21 59).trans rfl
theorem t_21_60 {Ls : Nat} {xs : Nat → Int32} : am_tbl Ls xs 21 60 = some (o_icmp (fun x y => decide (x ≠ y)) 83) := (m_21 60).trans rfl
theorem t_21_63 {Ls : Nat} {xs : Nat → Int32} : am_tbl Ls xs 21 63 = some (o_aload 0 1) := (m_21 63).trans rfl
theorem t_21_64 {Ls : Nat} {xs : Nat → Int32} : am_tbl Ls xs 21 64 = some (o_get 9 31) := (m_21 64).trans rfl
theorem t_21_67 {Ls : Nat} {xs : Nat → Int32} : am_tbl Ls xs 21 67 = some (o_iload 1 1) := (m_21 67).trans rfl
theorem t_21_68 {Ls : Nat} {xs : Nat → Int32} : am_tbl Ls xs 21 68 = some (o_iald 1) := (m_21 68).trans rfl
theorem t_21_69 {Ls : Nat} {xs : Nat → Int32} : am_tbl Ls xs 21 69 = some (o_push (.int 1) 1) := (m_21 69).trans rfl
theorem t_21_70 {Ls : Nat} {xs : Nat → Int32} : am_tbl Ls xs 21 70 = some (o_icmp (fun x y => decide (x ≠ y)) 83) := (m_21 70).trans rfl
theorem t_21_73 {Ls : Nat} {xs : Nat → Int32} : am_tbl Ls xs 21 73 = some (o_aload 0 1) := (m_21 73).trans rfl
theorem t_21_74 {Ls : Nat} {xs : Nat → Int32} : am_tbl Ls xs 21 74 = some (o_push (.int 4) 1) := (m_21 74).trans rfl
theorem t_21_75 {Ls : Nat} {xs : Nat → Int32} : am_tbl Ls xs 21 75 = some (o_aload 0 1) := (m_21 75).trans rfl
theorem t_21_76 {Ls : Nat} {xs : Nat → Int32} : am_tbl Ls xs 21 76 = some (o_get 9 24) := (m_21 76).trans rfl
theorem t_21_79 {Ls : Nat} {xs : Nat → Int32} : am_tbl Ls xs 21 79 = some (o_callv 11 2 9 3) := (m_21 79).trans rfl
theorem t_21_82 {Ls : Nat} {xs : Nat → Int32} : am_tbl Ls xs 21 82 = some (o_iret) := (m_21 82).trans rfl
theorem t_21_83 {Ls : Nat} {xs : Nat → Int32} : am_tbl Ls xs 21 83 = some (o_nrm [0, 1] (o_aload 0 1)) := (m_21 83).trans rfl
theorem t_21_84 {Ls : Nat} {xs : Nat → Int32} : am_tbl Ls xs 21 84 = some (o_aload 0 1) := (m_21 84).trans rfl
theorem t_21_85 {Ls : Nat} {xs : Nat → Int32} : am_tbl Ls xs 21 85 = some (o_get 9 32) := (m_21 85).trans rfl
theorem t_21_88 {Ls : Nat} {xs : Nat → Int32} : am_tbl Ls xs 21 88 = some (o_iload 1 1) := (m_21 88).trans rfl
theorem t_21_89 {Ls : Nat} {xs : Nat → Int32} : am_tbl Ls xs 21 89 = some (o_push (.int 0) 1) := (m_21 89).trans rfl
theorem t_21_90 {Ls : Nat} {xs : Nat → Int32} : am_tbl Ls xs 21 90 = some (o_push (.int 3) 1) := (m_21 90).trans rfl
theorem t_21_91 {Ls : Nat} {xs : Nat → Int32} : am_tbl Ls xs 21 91 = some (o_callv 16 4 9 6) := (m_21 91).trans rfl
theorem t_21_94 {Ls : Nat} {xs : Nat → Int32} : am_tbl Ls xs 21 94 = some (o_istore 2 1) := (m_21 94).trans rfl
theorem t_21_95 {Ls : Nat} {xs : Nat → Int32} : am_tbl Ls xs 21 95 = some (o_iload 2 1) := (m_21 95).trans rfl
theorem t_21_96 {Ls : Nat} {xs : Nat → Int32} : am_tbl Ls xs 21 96 = some (o_if (fun x => decide (x ≤ 0)) 103) := (m_21 96).trans rfl
set_option maxRecDepth 20000 in
theorem t_21_99 {Ls : Nat} {xs : Nat → Int32} : am_tbl Ls xs 21 99 = some (o_iload 2 1) := (m_21 99).trans rfl
set_option maxRecDepth 20000 in
theorem t_21_100 {Ls : Nat} {xs : Nat → Int32} : am_tbl Ls xs 21 100 = some (o_goto 115) := (m_21 100).trans rfl
set_option maxRecDepth 20000 in
theorem t_21_103 {Ls : Nat} {xs : Nat → Int32} : am_tbl Ls xs 21 103 = some (o_aload 0 1) := (m_21 103).trans rfl
set_option maxRecDepth 20000 in
theorem t_21_104 {Ls : Nat} {xs : Nat → Int32} : am_tbl Ls xs 21 104 = some (o_aload 0 1) := (m_21 104).trans rfl
set_option maxRecDepth 20000 in
theorem t_21_105 {Ls : Nat} {xs : Nat → Int32} : am_tbl Ls xs 21 105 = some (o_get 9 33) := (m_21 105).trans rfl
set_option maxRecDepth 20000 in
theorem t_21_108 {Ls : Nat} {xs : Nat → Int32} : am_tbl Ls xs 21 108 = some (o_iload 1 1) := (m_21 108).trans rfl
set_option maxRecDepth 20000 in
theorem t_21_109 {Ls : Nat} {xs : Nat → Int32} : am_tbl Ls xs 21 109 = some (o_push (.int 0) 1) := (m_21 109).trans rfl
set_option maxRecDepth 20000 in
theorem t_21_110 {Ls : Nat} {xs : Nat → Int32} : am_tbl Ls xs 21 110 = some (o_push (.int 20) 2) := (m_21 110).trans rfl
set_option maxRecDepth 20000 in
theorem t_21_112 {Ls : Nat} {xs : Nat → Int32} : am_tbl Ls xs 21 112 = some (o_callv 16 4 9 6) := (m_21 112).trans rfl
set_option maxRecDepth 20000 in
theorem t_21_115 {Ls : Nat} {xs : Nat → Int32} : am_tbl Ls xs 21 115 = some (o_nrm [] (o_iret)) := (m_21 115).trans rfl
theorem m_22 {Ls : Nat} {xs : Nat → Int32} (pc : Nat) : am_tbl Ls xs 22 pc = am_lk (op_X9_takePerson) pc := rfl
theorem t_22_0 {Ls : Nat} {xs : Nat → Int32} : am_tbl Ls xs 22 0 = some (o_aload 0 1) := (m_22 0).trans rfl
theorem t_22_1 {Ls : Nat} {xs : Nat → Int32} : am_tbl Ls xs 22 1 = some (o_callv 18 0 9 3) := (m_22 1).trans rfl
theorem t_22_4 {Ls : Nat} {xs : Nat → Int32} : am_tbl Ls xs 22 4 = some (o_istore 1 1) := (m_22 4).trans rfl
theorem t_22_5 {Ls : Nat} {xs : Nat → Int32} : am_tbl Ls xs 22 5 = some (o_iload 1 1) := (m_22 5).trans rfl
theorem t_22_6 {Ls : Nat} {xs : Nat → Int32} : am_tbl Ls xs 22 6 = some (o_if (fun x => decide (x ≤ 0)) 11) := (m_22 6).trans rfl
theorem t_22_9 {Ls : Nat} {xs : Nat → Int32} : am_tbl Ls xs 22 9 = some (o_iload 1 1) := (m_22 9).trans rfl
theorem t_22_10 {Ls : Nat} {xs : Nat → Int32} : am_tbl Ls xs 22 10 = some (o_iret) := (m_22 10).trans rfl
theorem t_22_11 {Ls : Nat} {xs : Nat → Int32} : am_tbl Ls xs 22 11 = some (o_aload 0 1) := (m_22 11).trans rfl
theorem t_22_12 {Ls : Nat} {xs : Nat → Int32} : am_tbl Ls xs 22 12 = some (o_get 9 28) := (m_22 12).trans rfl
theorem t_22_15 {Ls : Nat} {xs : Nat → Int32} : am_tbl Ls xs 22 15 = some (o_aload 0 1) := (m_22 15).trans rfl
theorem t_22_16 {Ls : Nat} {xs : Nat → Int32} : am_tbl Ls xs 22 16 = some (o_get 9 38) := (m_22 16).trans rfl
theorem t_22_19 {Ls : Nat} {xs : Nat → Int32} : am_tbl Ls xs 22 19 = some (o_iald 1) := (m_22 19).trans rfl
theorem t_22_20 {Ls : Nat} {xs : Nat → Int32} : am_tbl Ls xs 22 20 = some (o_if (fun x => decide (x ≤ 0)) 33) := (m_22 20).trans rfl
theorem t_22_23 {Ls : Nat} {xs : Nat → Int32} : am_tbl Ls xs 22 23 = some (o_aload 0 1) := (m_22 23).trans rfl
theorem t_22_24 {Ls : Nat} {xs : Nat → Int32} : am_tbl Ls xs 22 24 = some (o_push (.int 4) 1) := (m_22 24).trans rfl
theorem t_22_25 {Ls : Nat} {xs : Nat → Int32} : am_tbl Ls xs 22 25 = some (o_aload 0 1) := (m_22 25).trans rfl
theorem t_22_26 {Ls : Nat} {xs : Nat → Int32} : am_tbl Ls xs 22 26 = some (o_get 9 24) := (m_22 26).trans rfl
theorem t_22_29 {Ls : Nat} {xs : Nat → Int32} : am_tbl Ls xs 22 29 = some (o_callv 11 2 9 3) := (m_22 29).trans rfl
theorem t_22_32 {Ls : Nat} {xs : Nat → Int32} : am_tbl Ls xs 22 32 = some (o_iret) := (m_22 32).trans rfl
theorem t_22_33 {Ls : Nat} {xs : Nat → Int32} : am_tbl Ls xs 22 33 = some (o_aload 0 1) := (m_22 33).trans rfl
theorem t_22_34 {Ls : Nat} {xs : Nat → Int32} : am_tbl Ls xs 22 34 = some (o_get 9 35) := (m_22 34).trans rfl
theorem t_22_37 {Ls : Nat} {xs : Nat → Int32} : am_tbl Ls xs 22 37 = some (o_aload 0 1) := (m_22 37).trans rfl
theorem t_22_38 {Ls : Nat} {xs : Nat → Int32} : am_tbl Ls xs 22 38 = some (o_get 9 34) := (m_22 38).trans rfl
theorem t_22_41 {Ls : Nat} {xs : Nat → Int32} : am_tbl Ls xs 22 41 = some (o_aload 0 1) := (m_22 41).trans rfl
theorem t_22_42 {Ls : Nat} {xs : Nat → Int32} : am_tbl Ls xs 22 42 = some (o_get 9 38) := (m_22 42).trans rfl
theorem t_22_45 {Ls : Nat} {xs : Nat → Int32} : am_tbl Ls xs 22 45 = some (o_iast 1 (fun x => x)) := (m_22 45).trans rfl
theorem t_22_46 {Ls : Nat} {xs : Nat → Int32} : am_tbl Ls xs 22 46 = some (o_aload 0 1) := (m_22 46).trans rfl
theorem t_22_47 {Ls : Nat} {xs : Nat → Int32} : am_tbl Ls xs 22 47 = some (o_dup) := (m_22 47).trans rfl
theorem t_22_48 {Ls : Nat} {xs : Nat → Int32} : am_tbl Ls xs 22 48 = some (o_get 9 34) := (m_22 48).trans rfl
theorem t_22_51 {Ls : Nat} {xs : Nat → Int32} : am_tbl Ls xs 22 51 = some (o_push (.int 1) 1) := (m_22 51).trans rfl
theorem t_22_52 {Ls : Nat} {xs : Nat → Int32} : am_tbl Ls xs 22 52 = some (o_ibin (fun x y => x + y)) := (m_22 52).trans rfl
theorem t_22_53 {Ls : Nat} {xs : Nat → Int32} : am_tbl Ls xs 22 53 = some (o_puti 9 34) := (m_22 53).trans rfl
theorem t_22_56 {Ls : Nat} {xs : Nat → Int32} : am_tbl Ls xs 22 56 = some (o_aload 0 1) := (m_22 56).trans rfl
theorem t_22_57 {Ls : Nat} {xs : Nat → Int32} : am_tbl Ls xs 22 57 = some (o_aload 0 1) := (m_22 57).trans rfl
theorem t_22_58 {Ls : Nat} {xs : Nat → Int32} : am_tbl Ls xs 22 58 = some (o_get 9 36) := (m_22 58).trans rfl
theorem t_22_61 {Ls : Nat} {xs : Nat → Int32} : am_tbl Ls xs 22 61 = some (o_aload 0 1) := (m_22 61).trans rfl
theorem t_22_62 {Ls : Nat} {xs : Nat → Int32} : am_tbl Ls xs 22 62 = some (o_get 9 34) := (m_22 62).trans rfl
theorem t_22_65 {Ls : Nat} {xs : Nat → Int32} : am_tbl Ls xs 22 65 = some (o_push (.int 1) 1) := (m_22 65).trans rfl
theorem t_22_66 {Ls : Nat} {xs : Nat → Int32} : am_tbl Ls xs 22 66 = some (o_ibin (fun x y => x - y)) := (m_22 66).trans rfl
theorem t_22_67 {Ls : Nat} {xs : Nat → Int32} : am_tbl Ls xs 22 67 = some (o_push (.int 1) 1) := (m_22 67).trans rfl
theorem t_22_68 {Ls : Nat} {xs : Nat → Int32} : am_tbl Ls xs 22 68 = some (o_push (.int 9) 2) := (m_22 68).trans rfl
theorem t_22_70 {Ls : Nat} {xs : Nat → Int32} : am_tbl Ls xs 22 70 = some (o_callv 16 4 9 6) := (m_22 70).trans rfl
theorem t_22_73 {Ls : Nat} {xs : Nat → Int32} : am_tbl Ls xs 22 73 = some (o_iret) := (m_22 73).trans rfl
theorem m_23 {Ls : Nat} {xs : Nat → Int32} (pc : Nat) : am_tbl Ls xs 23 pc = am_lk (op_X9_takeGrey) pc := rfl
theorem t_23_0 {Ls : Nat} {xs : Nat → Int32} : am_tbl Ls xs 23 0 = some (o_aload 0 1) := (m_23 0).trans rfl
theorem t_23_1 {Ls : Nat} {xs : Nat → Int32} : am_tbl Ls xs 23 1 = some (o_push (.int 0) 1) := (m_23 1).trans rfl
theorem t_23_2 {Ls : Nat} {xs : Nat → Int32} : am_tbl Ls xs 23 2 = some (o_push (.int 100) 2) := (m_23 2).trans rfl
theorem t_23_4 {Ls : Nat} {xs : Nat → Int32} : am_tbl Ls xs 23 4 = some (o_callv 15 2 9 4) := (m_23 4).trans rfl
theorem t_23_7 {Ls : Nat} {xs : Nat → Int32} : am_tbl Ls xs 23 7 = some (o_istore 1 1) := (m_23 7).trans rfl
theorem t_23_8 {Ls : Nat} {xs : Nat → Int32} : am_tbl Ls xs 23 8 = some (o_aload 0 1) := (m_23 8).trans rfl
theorem t_23_9 {Ls : Nat} {xs : Nat → Int32} : am_tbl Ls xs 23 9 = some (o_aload 0 1) := (m_23 9).trans rfl
theorem t_23_10 {Ls : Nat} {xs : Nat → Int32} : am_tbl Ls xs 23 10 = some (o_get 9 23) := (m_23 10).trans rfl
theorem t_23_13 {Ls : Nat} {xs : Nat → Int32} : am_tbl Ls xs 23 13 = some (o_puti 9 37) := (m_23 13).trans rfl
theorem t_23_16 {Ls : Nat} {xs : Nat → Int32} : am_tbl Ls xs 23 16 = some (o_iload 1 1) := (m_23 16).trans rfl
theorem t_23_17 {Ls : Nat} {xs : Nat → Int32} : am_tbl Ls xs 23 17 = some (o_iret) := (m_23 17).trans rfl
theorem m_24 {Ls : Nat} {xs : Nat → Int32} (pc : Nat) : am_tbl Ls xs 24 pc = am_lk (op_X9_takeClause) pc := rfl
theorem t_24_0 {Ls : Nat} {xs : Nat → Int32} : am_tbl Ls xs 24 0 = some (o_aload 0 1) := (m_24 0).trans rfl
theorem t_24_1 {Ls : Nat} {xs : Nat → Int32} : am_tbl Ls xs 24 1 = some (o_callv 12 0 9 2) := (m_24 1).trans rfl
theorem t_24_4 {Ls : Nat} {xs : Nat → Int32} : am_tbl Ls xs 24 4 = some (o_aload 0 1) := (m_24 4).trans rfl
theorem t_24_5 {Ls : Nat} {xs : Nat → Int32} : am_tbl Ls xs 24 5 = some (o_get 9 21) := (m_24 5).trans rfl
theorem t_24_8 {Ls : Nat} {xs : Nat → Int32} : am_tbl Ls xs 24 8 = some (o_push (.int 103) 2) := (m_24 8).trans rfl
theorem t_24_10 {Ls : Nat} {xs : Nat → Int32} : am_tbl Ls xs 24 10 = some (o_push (.int 114) 2) := (m_24 10).trans rfl
theorem t_24_12 {Ls : Nat} {xs : Nat → Int32} : am_tbl Ls xs 24 12 = some (o_push (.int 111) 2) := (m_24 12).trans rfl
theorem t_24_14 {Ls : Nat} {xs : Nat → Int32} : am_tbl Ls xs 24 14 = some (o_calls 13 3 3) := (m_24 14).trans rfl
theorem t_24_17 {Ls : Nat} {xs : Nat → Int32} : am_tbl Ls xs 24 17 = some (o_push (.int 117) 2) := (m_24 17).trans rfl
theorem t_24_19 {Ls : Nat} {xs : Nat → Int32} : am_tbl Ls xs 24 19 = some (o_push (.int 110) 2) := (m_24 19).trans rfl
theorem t_24_21 {Ls : Nat} {xs : Nat → Int32} : am_tbl Ls xs 24 21 = some (o_calls 14 3 4) := (m_24 21).trans rfl
theorem t_24_24 {Ls : Nat} {xs : Nat → Int32} : am_tbl Ls xs 24 24 = some (o_push (.int 100) 2) := (m_24 24).trans rfl
theorem t_24_26 {Ls : Nat} {xs : Nat → Int32} : am_tbl Ls xs 24 26 = some (o_push (.int 0) 1) := (m_24 26).trans rfl
theorem t_24_27 {Ls : Nat} {xs : Nat → Int32} : am_tbl Ls xs 24 27 = some (o_calls 14 3 4) := (m_24 27).trans rfl
theorem t_24_30 {Ls : Nat} {xs : Nat → Int32} : am_tbl Ls xs 24 30 = some (o_lcmp) := (m_24 30).trans rfl
theorem t_24_31 {Ls : Nat} {xs : Nat → Int32} : am_tbl Ls xs 24 31 = some (o_if (fun x => decide (x ≠ 0)) 38) := (m_24 31).trans rfl
theorem t_24_34 {Ls : Nat} {xs : Nat → Int32} : am_tbl Ls xs 24 34 = some (o_push (.int 0) 1) := (m_24 34).trans rfl
theorem t_24_35 {Ls : Nat} {xs : Nat → Int32} : am_tbl Ls xs 24 35 = some (o_goto 88) := (m_24 35).trans rfl
theorem t_24_38 {Ls : Nat} {xs : Nat → Int32} : am_tbl Ls xs 24 38 = some (o_aload 0 1) := (m_24 38).trans rfl
theorem t_24_39 {Ls : Nat} {xs : Nat → Int32} : am_tbl Ls xs 24 39 = some (o_get 9 21) := (m_24 39).trans rfl
theorem t_24_42 {Ls : Nat} {xs : Nat → Int32} : am_tbl Ls xs 24 42 = some (o_push (.int 104) 2) := (m_24 42).trans rfl
theorem t_24_44 {Ls : Nat} {xs : Nat → Int32} : am_tbl Ls xs 24 44 = some (o_push (.int 111) 2) := (m_24 44).trans rfl
theorem t_24_46 {Ls : Nat} {xs : Nat → Int32} : am_tbl Ls xs 24 46 = some (o_push (.int 117) 2) := (m_24 46).trans rfl
theorem t_24_48 {Ls : Nat} {xs : Nat → Int32} : am_tbl Ls xs 24 48 = some (o_calls 13 3 3) := (m_24 48).trans rfl
theorem t_24_51 {Ls : Nat} {xs : Nat → Int32} : am_tbl Ls xs 24 51 = some (o_push (.int 115) 2) := (m_24 51).trans rfl
theorem t_24_53 {Ls : Nat} {xs : Nat → Int32} : am_tbl Ls xs 24 53 = some (o_push (.int 101) 2) := (m_24 53).trans rfl
theorem t_24_55 {Ls : Nat} {xs : Nat → Int32} : am_tbl Ls xs 24 55 = some (o_calls 14 3 4) := (m_24 55).trans rfl
theorem t_24_58 {Ls : Nat} {xs : Nat → Int32} : am_tbl Ls xs 24 58 = some (o_lcmp) := (m_24 58).trans rfl
theorem t_24_59 {Ls : Nat} {xs : Nat → Int32} : am_tbl Ls xs 24 59 = some (o_if (fun x => decide (x ≠ 0)) 66) := (m_24 59).trans rfl
theorem t_24_62 {Ls : Nat} {xs : Nat → Int32} : am_tbl Ls xs 24 62 = some (o_push (.int 1) 1) := (m_24 62).trans rfl
theorem t_24_63 {Ls : Nat} {xs : Nat → Int32} : am_tbl Ls xs 24 63 = some (o_goto 88) := (m_24 63).trans rfl
theorem t_24_66 {Ls : Nat} {xs : Nat → Int32} : am_tbl Ls xs 24 66 = some (o_aload 0 1) := (m_24 66).trans rfl
theorem t_24_67 {Ls : Nat} {xs : Nat → Int32} : am_tbl Ls xs 24 67 = some (o_get 9 21) := (m_24 67).trans rfl
theorem t_24_70 {Ls : Nat} {xs : Nat → Int32} : am_tbl Ls xs 24 70 = some (o_push (.int 115) 2) := (m_24 70).trans rfl
theorem t_24_72 {Ls : Nat} {xs : Nat → Int32} : am_tbl Ls xs 24 72 = some (o_push (.int 117) 2) := (m_24 72).trans rfl
theorem t_24_74 {Ls : Nat} {xs : Nat → Int32} : am_tbl Ls xs 24 74 = some (o_push (.int 110) 2) := (m_24 74).trans rfl
theorem t_24_76 {Ls : Nat} {xs : Nat → Int32} : am_tbl Ls xs 24 76 = some (o_calls 13 3 3) := (m_24 76).trans rfl
theorem t_24_79 {Ls : Nat} {xs : Nat → Int32} : am_tbl Ls xs 24 79 = some (o_lcmp) := (m_24 79).trans rfl
theorem t_24_80 {Ls : Nat} {xs : Nat → Int32} : am_tbl Ls xs 24 80 = some (o_if (fun x => decide (x ≠ 0)) 87) := (m_24 80).trans rfl
theorem t_24_83 {Ls : Nat} {xs : Nat → Int32} : am_tbl Ls xs 24 83 = some (o_push (.int 2) 1) := (m_24 83).trans rfl
theorem t_24_84 {Ls : Nat} {xs : Nat → Int32} : am_tbl Ls xs 24 84 = some (o_goto 88) := (m_24 84).trans rfl
theorem t_24_87 {Ls : Nat} {xs : Nat → Int32} : am_tbl Ls xs 24 87 = some (o_push (.int (-1)) 1) := (m_24 87).trans rfl
theorem t_24_88 {Ls : Nat} {xs : Nat → Int32} : am_tbl Ls xs 24 88 = some (o_nrm [0] (o_istore 1 1)) := (m_24 88).trans rfl
theorem t_24_89 {Ls : Nat} {xs : Nat → Int32} : am_tbl Ls xs 24 89 = some (o_iload 1 1) := (m_24 89).trans rfl
theorem t_24_90 {Ls : Nat} {xs : Nat → Int32} : am_tbl Ls xs 24 90 = some (o_if (fun x => decide (x < 0)) 97) := (m_24 90).trans rfl
theorem t_24_93 {Ls : Nat} {xs : Nat → Int32} : am_tbl Ls xs 24 93 = some (o_iload 1 1) := (m_24 93).trans rfl
theorem t_24_94 {Ls : Nat} {xs : Nat → Int32} : am_tbl Ls xs 24 94 = some (o_goto 159) := (m_24 94).trans rfl
theorem t_24_97 {Ls : Nat} {xs : Nat → Int32} : am_tbl Ls xs 24 97 = some (o_aload 0 1) := (m_24 97).trans rfl
theorem t_24_98 {Ls : Nat} {xs : Nat → Int32} : am_tbl Ls xs 24 98 = some (o_get 9 21) := (m_24 98).trans rfl
theorem t_24_101 {Ls : Nat} {xs : Nat → Int32} : am_tbl Ls xs 24 101 = some (o_push (.int 112) 2) := (m_24 101).trans rfl
theorem t_24_103 {Ls : Nat} {xs : Nat → Int32} : am_tbl Ls xs 24 103 = some (o_push (.int 101) 2) := (m_24 103).trans rfl
theorem t_24_105 {Ls : Nat} {xs : Nat → Int32} : am_tbl Ls xs 24 105 = some (o_push (.int 114) 2) := (m_24 105).trans rfl
theorem t_24_107 {Ls : Nat} {xs : Nat → Int32} : am_tbl Ls xs 24 107 = some (o_calls 13 3 3) := (m_24 107).trans rfl
theorem t_24_110 {Ls : Nat} {xs : Nat → Int32} : am_tbl Ls xs 24 110 = some (o_push (.int 115) 2) := (m_24 110).trans rfl
theorem t_24_112 {Ls : Nat} {xs : Nat → Int32} : am_tbl Ls xs 24 112 = some (o_push (.int 111) 2) := (m_24 112).trans rfl
theorem t_24_114 {Ls : Nat} {xs : Nat → Int32} : am_tbl Ls xs 24 114 = some (o_calls 14 3 4) := (m_24 114).trans rfl
theorem t_24_117 {Ls : Nat} {xs : Nat → Int32} : am_tbl Ls xs 24 117 = some (o_push (.int 110) 2) := (m_24 117).trans rfl
theorem t_24_119 {Ls : Nat} {xs : Nat → Int32} : am_tbl Ls xs 24 119 = some (o_push (.int 0) 1) := (m_24 119).trans rfl
theorem t_24_120 {Ls : Nat} {xs : Nat → Int32} : am_tbl Ls xs 24 120 = some (o_calls 14 3 4) := (m_24 120).trans rfl
theorem t_24_123 {Ls : Nat} {xs : Nat → Int32} : am_tbl Ls xs 24 123 = some (o_lcmp) := (m_24 123).trans rfl
theorem t_24_124 {Ls : Nat} {xs : Nat → Int32} : am_tbl Ls xs 24 124 = some (o_if (fun x => decide (x ≠ 0)) 131) := (m_24 124).trans rfl
set_option maxRecDepth 20000 in
theorem t_24_127 {Ls : Nat} {xs : Nat → Int32} : am_tbl Ls xs 24 127 = some (o_push (.int 3) 1) := (m_24 127).trans rfl
set_option maxRecDepth 20000 in
theorem t_24_128 {Ls : Nat} {xs : Nat → Int32} : am_tbl Ls xs 24 128 = some (o_goto 159) := (m_24 128).trans rfl
set_option maxRecDepth 20000 in
theorem t_24_131 {Ls : Nat} {xs : Nat → Int32} : am_tbl Ls xs 24 131 = some (o_aload 0 1) := (m_24 131).trans rfl
set_option maxRecDepth 20000 in
theorem t_24_132 {Ls : Nat} {xs : Nat → Int32} : am_tbl Ls xs 24 132 = some (o_get 9 21) := (m_24 132).trans rfl
set_option maxRecDepth 20000 in
theorem t_24_135 {Ls : Nat} {xs : Nat → Int32} : am_tbl Ls xs 24 135 = some (o_push (.int 103) 2) := (m_24 135).trans rfl
set_option maxRecDepth 20000 in
theorem t_24_137 {Ls : Nat} {xs : Nat → Int32} : am_tbl Ls xs 24 137 = some (o_push (.int 114) 2) := (m_24 137).trans rfl
set_option maxRecDepth 20000 in
theorem t_24_139 {Ls : Nat} {xs : Nat → Int32} : am_tbl Ls xs 24 139 = some (o_push (.int 101) 2) := (m_24 139).trans rfl
set_option maxRecDepth 20000 in
theorem t_24_141 {Ls : Nat} {xs : Nat → Int32} : am_tbl Ls xs 24 141 = some (o_calls 13 3 3) := (m_24 141).trans rfl
set_option maxRecDepth 20000 in
theorem t_24_144 {Ls : Nat} {xs : Nat → Int32} : am_tbl Ls xs 24 144 = some (o_push (.int 121) 2) := (m_24 144).trans rfl
set_option maxRecDepth 20000 in
theorem t_24_146 {Ls : Nat} {xs : Nat → Int32} : am_tbl Ls xs 24 146 = some (o_push (.int 0) 1) := (m_24 146).trans rfl
set_option maxRecDepth 20000 in
theorem t_24_147 {Ls : Nat} {xs : Nat → Int32} : am_tbl Ls xs 24 147 = some (o_calls 14 3 4) := (m_24 147).trans rfl
set_option maxRecDepth 20000 in
theorem t_24_150 {Ls : Nat} {xs : Nat → Int32} : am_tbl Ls xs 24 150 = some (o_lcmp) := (m_24 150).trans rfl
set_option maxRecDepth 20000 in
theorem t_24_151 {Ls : Nat} {xs : Nat → Int32} : am_tbl Ls xs 24 151 = some (o_if (fun x => decide (x ≠ 0)) 158) := (m_24 151).trans rfl
set_option maxRecDepth 20000 in
theorem t_24_154 {Ls : Nat} {xs : Nat → Int32} : am_tbl Ls xs 24 154 = some (o_push (.int 4) 1) := (m_24 154).trans rfl
set_option maxRecDepth 20000 in
theorem t_24_155 {Ls : Nat} {xs : Nat → Int32} : am_tbl Ls xs 24 155 = some (o_goto 159) := (m_24 155).trans rfl
set_option maxRecDepth 20000 in
theorem t_24_158 {Ls : Nat} {xs : Nat → Int32} : am_tbl Ls xs 24 158 = some (o_push (.int (-1)) 1) := (m_24 158).trans rfl
set_option maxRecDepth 20000 in
theorem t_24_159 {Ls : Nat} {xs : Nat → Int32} : am_tbl Ls xs 24 159 = some (o_nrm [0] (o_istore 2 1)) := (m_24 159).trans rfl
set_option maxRecDepth 20000 in
theorem t_24_160 {Ls : Nat} {xs : Nat → Int32} : am_tbl Ls xs 24 160 = some (o_iload 2 1) := (m_24 160).trans rfl
set_option maxRecDepth 20000 in
theorem t_24_161 {Ls : Nat} {xs : Nat → Int32} : am_tbl Ls xs 24 161 = some (o_if (fun x => decide (x < 0)) 175) := (m_24 161).trans rfl
set_option maxRecDepth 20000 in
theorem t_24_164 {Ls : Nat} {xs : Nat → Int32} : am_tbl Ls xs 24 164 = some (o_iload 2 1) := (m_24 164).trans rfl
set_option maxRecDepth 20000 in
theorem t_24_165 {Ls : Nat} {xs : Nat → Int32} : am_tbl Ls xs 24 165 = some (o_if (fun x => decide (x ≤ 0)) 185) := (m_24 165).trans rfl
set_option maxRecDepth 20000 in
theorem t_24_168 {Ls : Nat} {xs : Nat → Int32} : am_tbl Ls xs 24 168 = some (o_aload 0 1) := (m_24 168).trans rfl
set_option maxRecDepth 20000 in
theorem t_24_169 {Ls : Nat} {xs : Nat → Int32} : am_tbl Ls xs 24 169 = some (o_get 9 25) := (m_24 169).trans rfl
set_option maxRecDepth 20000 in
theorem t_24_172 {Ls : Nat} {xs : Nat → Int32} : am_tbl Ls xs 24 172 = some (o_if (fun x => decide (x ≠ 0)) 185) := (m_24 172).trans rfl
set_option maxRecDepth 20000 in
theorem t_24_175 {Ls : Nat} {xs : Nat → Int32} : am_tbl Ls xs 24 175 = some (o_nrm [0] (o_aload 0 1)) := (m_24 175).trans rfl
set_option maxRecDepth 20000 in
theorem t_24_176 {Ls : Nat} {xs : Nat → Int32} : am_tbl Ls xs 24 176 = some (o_push (.int 1) 1) := (m_24 176).trans rfl
set_option maxRecDepth 20000 in
theorem t_24_177 {Ls : Nat} {xs : Nat → Int32} : am_tbl Ls xs 24 177 = some (o_aload 0 1) := (m_24 177).trans rfl
set_option maxRecDepth 20000 in
theorem t_24_178 {Ls : Nat} {xs : Nat → Int32} : am_tbl Ls xs 24 178 = some (o_get 9 20) := (m_24 178).trans rfl
set_option maxRecDepth 20000 in
theorem t_24_181 {Ls : Nat} {xs : Nat → Int32} : am_tbl Ls xs 24 181 = some (o_callv 11 2 9 3) := (m_24 181).trans rfl
set_option maxRecDepth 20000 in
theorem t_24_184 {Ls : Nat} {xs : Nat → Int32} : am_tbl Ls xs 24 184 = some (o_iret) := (m_24 184).trans rfl
set_option maxRecDepth 20000 in
theorem t_24_185 {Ls : Nat} {xs : Nat → Int32} : am_tbl Ls xs 24 185 = some (o_nrm [0, 2] (o_iload 2 1)) := (m_24 185).trans rfl
set_option maxRecDepth 20000 in
theorem t_24_186 {Ls : Nat} {xs : Nat → Int32} : am_tbl Ls xs 24 186 = some (o_if (fun x => decide (x ≠ 0)) 204) := (m_24 186).trans rfl
set_option maxRecDepth 20000 in
theorem t_24_189 {Ls : Nat} {xs : Nat → Int32} : am_tbl Ls xs 24 189 = some (o_aload 0 1) := (m_24 189).trans rfl
set_option maxRecDepth 20000 in
theorem t_24_190 {Ls : Nat} {xs : Nat → Int32} : am_tbl Ls xs 24 190 = some (o_get 9 25) := (m_24 190).trans rfl
set_option maxRecDepth 20000 in
theorem t_24_193 {Ls : Nat} {xs : Nat → Int32} : am_tbl Ls xs 24 193 = some (o_if (fun x => decide (x ≤ 0)) 200) := (m_24 193).trans rfl
set_option maxRecDepth 20000 in
theorem t_24_196 {Ls : Nat} {xs : Nat → Int32} : am_tbl Ls xs 24 196 = some (o_push (.int 1) 1) := (m_24 196).trans rfl
set_option maxRecDepth 20000 in
theorem t_24_197 {Ls : Nat} {xs : Nat → Int32} : am_tbl Ls xs 24 197 = some (o_goto 282) := (m_24 197).trans rfl
set_option maxRecDepth 20000 in
theorem t_24_200 {Ls : Nat} {xs : Nat → Int32} : am_tbl Ls xs 24 200 = some (o_push (.int 0) 1) := (m_24 200).trans rfl
set_option maxRecDepth 20000 in
theorem t_24_201 {Ls : Nat} {xs : Nat → Int32} : am_tbl Ls xs 24 201 = some (o_goto 282) := (m_24 201).trans rfl
set_option maxRecDepth 20000 in
theorem t_24_204 {Ls : Nat} {xs : Nat → Int32} : am_tbl Ls xs 24 204 = some (o_iload 2 1) := (m_24 204).trans rfl
set_option maxRecDepth 20000 in
theorem t_24_205 {Ls : Nat} {xs : Nat → Int32} : am_tbl Ls xs 24 205 = some (o_push (.int 1) 1) := (m_24 205).trans rfl
set_option maxRecDepth 20000 in
theorem t_24_206 {Ls : Nat} {xs : Nat → Int32} : am_tbl Ls xs 24 206 = some (o_icmp (fun x y => decide (x ≠ y)) 226) := (m_24 206).trans rfl
set_option maxRecDepth 20000 in
theorem t_24_209 {Ls : Nat} {xs : Nat → Int32} : am_tbl Ls xs 24 209 = some (o_aload 0 1) := (m_24 209).trans rfl
set_option maxRecDepth 20000 in
theorem t_24_210 {Ls : Nat} {xs : Nat → Int32} : am_tbl Ls xs 24 210 = some (o_get 9 27) := (m_24 210).trans rfl
set_option maxRecDepth 20000 in
theorem t_24_213 {Ls : Nat} {xs : Nat → Int32} : am_tbl Ls xs 24 213 = some (o_push (.int 15) 2) := (m_24 213).trans rfl
set_option maxRecDepth 20000 in
theorem t_24_215 {Ls : Nat} {xs : Nat → Int32} : am_tbl Ls xs 24 215 = some (o_icmp (fun x y => decide (x ≠ y)) 222) := (m_24 215).trans rfl
set_option maxRecDepth 20000 in
theorem t_24_218 {Ls : Nat} {xs : Nat → Int32} : am_tbl Ls xs 24 218 = some (o_push (.int 1) 1) := (m_24 218).trans rfl
set_option maxRecDepth 20000 in
theorem t_24_219 {Ls : Nat} {xs : Nat → Int32} : am_tbl Ls xs 24 219 = some (o_goto 282) := (m_24 219).trans rfl
set_option maxRecDepth 20000 in
theorem t_24_222 {Ls : Nat} {xs : Nat → Int32} : am_tbl Ls xs 24 222 = some (o_push (.int 0) 1) := (m_24 222).trans rfl
set_option maxRecDepth 20000 in
theorem t_24_223 {Ls : Nat} {xs : Nat → Int32} : am_tbl Ls xs 24 223 = some (o_goto 282) := (m_24 223).trans rfl
set_option maxRecDepth 20000 in
theorem t_24_226 {Ls : Nat} {xs : Nat → Int32} : am_tbl Ls xs 24 226 = some (o_iload 2 1) := (m_24 226).trans rfl
set_option maxRecDepth 20000 in
theorem t_24_227 {Ls : Nat} {xs : Nat → Int32} : am_tbl Ls xs 24 227 = some (o_push (.int 2) 1) := (m_24 227).trans rfl
set_option maxRecDepth 20000 in
theorem t_24_228 {Ls : Nat} {xs : Nat → Int32} : am_tbl Ls xs 24 228 = some (o_icmp (fun x y => decide (x ≠ y)) 248) := (m_24 228).trans rfl
set_option maxRecDepth 20000 in
theorem t_24_231 {Ls : Nat} {xs : Nat → Int32} : am_tbl Ls xs 24 231 = some (o_aload 0 1) := (m_24 231).trans rfl
set_option maxRecDepth 20000 in
theorem t_24_232 {Ls : Nat} {xs : Nat → Int32} : am_tbl Ls xs 24 232 = some (o_get 9 29) := (m_24 232).trans rfl
set_option maxRecDepth 20000 in
theorem t_24_235 {Ls : Nat} {xs : Nat → Int32} : am_tbl Ls xs 24 235 = some (o_push (.int 6) 2) := (m_24 235).trans rfl
set_option maxRecDepth 20000 in
theorem t_24_237 {Ls : Nat} {xs : Nat → Int32} : am_tbl Ls xs 24 237 = some (o_icmp (fun x y => decide (x ≠ y)) 244) := (m_24 237).trans rfl
set_option maxRecDepth 20000 in
theorem t_24_240 {Ls : Nat} {xs : Nat → Int32} : am_tbl Ls xs 24 240 = some (o_push (.int 1) 1) := (m_24 240).trans rfl
set_option maxRecDepth 20000 in
theorem t_24_241 {Ls : Nat} {xs : Nat → Int32} : am_tbl Ls xs 24 241 = some (o_goto 282) := (m_24 241).trans rfl
set_option maxRecDepth 20000 in
theorem t_24_244 {Ls : Nat} {xs : Nat → Int32} : am_tbl Ls xs 24 244 = some (o_push (.int 0) 1) := (m_24 244).trans rfl
set_option maxRecDepth 20000 in
theorem t_24_245 {Ls : Nat} {xs : Nat → Int32} : am_tbl Ls xs 24 245 = some (o_goto 282) := (m_24 245).trans rfl
set_option maxRecDepth 20000 in
theorem t_24_248 {Ls : Nat} {xs : Nat → Int32} : am_tbl Ls xs 24 248 = some (o_iload 2 1) := (m_24 248).trans rfl
set_option maxRecDepth 20000 in
theorem t_24_249 {Ls : Nat} {xs : Nat → Int32} : am_tbl Ls xs 24 249 = some (o_push (.int 3) 1) := (m_24 249).trans rfl
set_option maxRecDepth 20000 in
theorem t_24_250 {Ls : Nat} {xs : Nat → Int32} : am_tbl Ls xs 24 250 = some (o_icmp (fun x y => decide (x ≠ y)) 270) := (m_24 250).trans rfl
set_option maxRecDepth 20000 in
theorem t_24_253 {Ls : Nat} {xs : Nat → Int32} : am_tbl Ls xs 24 253 = some (o_aload 0 1) := (m_24 253).trans rfl
set_option maxRecDepth 20000 in
theorem t_24_254 {Ls : Nat} {xs : Nat → Int32} : am_tbl Ls xs 24 254 = some (o_get 9 34) := (m_24 254).trans rfl
set_option maxRecDepth 20000 in
theorem t_24_257 {Ls : Nat} {xs : Nat → Int32} : am_tbl Ls xs 24 257 = some (o_push (.int 6) 2) := (m_24 257).trans rfl
set_option maxRecDepth 20000 in
theorem t_24_259 {Ls : Nat} {xs : Nat → Int32} : am_tbl Ls xs 24 259 = some (o_icmp (fun x y => decide (x ≠ y)) 266) := (m_24 259).trans rfl
set_option maxRecDepth 20000 in
theorem t_24_262 {Ls : Nat} {xs : Nat → Int32} : am_tbl Ls xs 24 262 = some (o_push (.int 1) 1) := (m_24 262).trans rfl
set_option maxRecDepth 20000 in
theorem t_24_263 {Ls : Nat} {xs : Nat → Int32} : am_tbl Ls xs 24 263 = some (o_goto 282) := (m_24 263).trans rfl
set_option maxRecDepth 20000 in
theorem t_24_266 {Ls : Nat} {xs : Nat → Int32} : am_tbl Ls xs 24 266 = some (o_push (.int 0) 1) := (m_24 266).trans rfl
set_option maxRecDepth 20000 in
theorem t_24_267 {Ls : Nat} {xs : Nat → Int32} : am_tbl Ls xs 24 267 = some (o_goto 282) := (m_24 267).trans rfl
set_option maxRecDepth 20000 in
theorem t_24_270 {Ls : Nat} {xs : Nat → Int32} : am_tbl Ls xs 24 270 = some (o_aload 0 1) := (m_24 270).trans rfl
set_option maxRecDepth 20000 in
theorem t_24_271 {Ls : Nat} {xs : Nat → Int32} : am_tbl Ls xs 24 271 = some (o_get 9 37) := (m_24 271).trans rfl
set_option maxRecDepth 20000 in
theorem t_24_274 {Ls : Nat} {xs : Nat → Int32} : am_tbl Ls xs 24 274 = some (o_if (fun x => decide (x < 0)) 281) := (m_24 274).trans rfl
set_option maxRecDepth 20000 in
theorem t_24_277 {Ls : Nat} {xs : Nat → Int32} : am_tbl Ls xs 24 277 = some (o_push (.int 1) 1) := (m_24 277).trans rfl
set_option maxRecDepth 20000 in
theorem t_24_278 {Ls : Nat} {xs : Nat → Int32} : am_tbl Ls xs 24 278 = some (o_goto 282) := (m_24 278).trans rfl
set_option maxRecDepth 20000 in
theorem t_24_281 {Ls : Nat} {xs : Nat → Int32} : am_tbl Ls xs 24 281 = some (o_push (.int 0) 1) := (m_24 281).trans rfl
set_option maxRecDepth 20000 in
theorem t_24_282 {Ls : Nat} {xs : Nat → Int32} : am_tbl Ls xs 24 282 = some (o_nrm [0, 2] (o_istore 3 1)) := (m_24 282).trans rfl
set_option maxRecDepth 20000 in
theorem t_24_283 {Ls : Nat} {xs : Nat → Int32} : am_tbl Ls xs 24 283 = some (o_iload 3 1) := (m_24 283).trans rfl
set_option maxRecDepth 20000 in
theorem t_24_284 {Ls : Nat} {xs : Nat → Int32} : am_tbl Ls xs 24 284 = some (o_if (fun x => decide (x = 0)) 297) := (m_24 284).trans rfl
set_option maxRecDepth 20000 in
theorem t_24_287 {Ls : Nat} {xs : Nat → Int32} : am_tbl Ls xs 24 287 = some (o_aload 0 1) := (m_24 287).trans rfl
set_option maxRecDepth 20000 in
theorem t_24_288 {Ls : Nat} {xs : Nat → Int32} : am_tbl Ls xs 24 288 = some (o_push (.int 3) 1) := (m_24 288).trans rfl
set_option maxRecDepth 20000 in
theorem t_24_289 {Ls : Nat} {xs : Nat → Int32} : am_tbl Ls xs 24 289 = some (o_aload 0 1) := (m_24 289).trans rfl
set_option maxRecDepth 20000 in
theorem t_24_290 {Ls : Nat} {xs : Nat → Int32} : am_tbl Ls xs 24 290 = some (o_get 9 20) := (m_24 290).trans rfl
set_option maxRecDepth 20000 in
theorem t_24_293 {Ls : Nat} {xs : Nat → Int32} : am_tbl Ls xs 24 293 = some (o_callv 11 2 9 3) := (m_24 293).trans rfl
set_option maxRecDepth 20000 in
theorem t_24_296 {Ls : Nat} {xs : Nat → Int32} : am_tbl Ls xs 24 296 = some (o_iret) := (m_24 296).trans rfl
set_option maxRecDepth 20000 in
theorem t_24_297 {Ls : Nat} {xs : Nat → Int32} : am_tbl Ls xs 24 297 = some (o_aload 0 1) := (m_24 297).trans rfl
set_option maxRecDepth 20000 in
theorem t_24_298 {Ls : Nat} {xs : Nat → Int32} : am_tbl Ls xs 24 298 = some (o_aload 0 1) := (m_24 298).trans rfl
set_option maxRecDepth 20000 in
theorem t_24_299 {Ls : Nat} {xs : Nat → Int32} : am_tbl Ls xs 24 299 = some (o_get 9 22) := (m_24 299).trans rfl
set_option maxRecDepth 20000 in
theorem t_24_302 {Ls : Nat} {xs : Nat → Int32} : am_tbl Ls xs 24 302 = some (o_puti 9 20) := (m_24 302).trans rfl
set_option maxRecDepth 20000 in
theorem t_24_305 {Ls : Nat} {xs : Nat → Int32} : am_tbl Ls xs 24 305 = some (o_iload 2 1) := (m_24 305).trans rfl
set_option maxRecDepth 20000 in
theorem t_24_306 {Ls : Nat} {xs : Nat → Int32} : am_tbl Ls xs 24 306 = some (o_if (fun x => decide (x ≠ 0)) 316) := (m_24 306).trans rfl
set_option maxRecDepth 20000 in
theorem t_24_309 {Ls : Nat} {xs : Nat → Int32} : am_tbl Ls xs 24 309 = some (o_aload 0 1) := (m_24 309).trans rfl
set_option maxRecDepth 20000 in
theorem t_24_310 {Ls : Nat} {xs : Nat → Int32} : am_tbl Ls xs 24 310 = some (o_callv 17 0 9 3) := (m_24 310).trans rfl
set_option maxRecDepth 20000 in
theorem t_24_313 {Ls : Nat} {xs : Nat → Int32} : am_tbl Ls xs 24 313 = some (o_goto 356) := (m_24 313).trans rfl
set_option maxRecDepth 20000 in
theorem t_24_316 {Ls : Nat} {xs : Nat → Int32} : am_tbl Ls xs 24 316 = some (o_iload 2 1) := (m_24 316).trans rfl
set_option maxRecDepth 20000 in
theorem t_24_317 {Ls : Nat} {xs : Nat → Int32} : am_tbl Ls xs 24 317 = some (o_push (.int 1) 1) := (m_24 317).trans rfl
set_option maxRecDepth 20000 in
theorem t_24_318 {Ls : Nat} {xs : Nat → Int32} : am_tbl Ls xs 24 318 = some (o_icmp (fun x y => decide (x ≠ y)) 328) := (m_24 318).trans rfl
set_option maxRecDepth 20000 in
theorem t_24_321 {Ls : Nat} {xs : Nat → Int32} : am_tbl Ls xs 24 321 = some (o_aload 0 1) := (m_24 321).trans rfl
set_option maxRecDepth 20000 in
theorem t_24_322 {Ls : Nat} {xs : Nat → Int32} : am_tbl Ls xs 24 322 = some (o_callv 20 0 9 2) := (m_24 322).trans rfl
set_option maxRecDepth 20000 in
theorem t_24_325 {Ls : Nat} {xs : Nat → Int32} : am_tbl Ls xs 24 325 = some (o_goto 356) := (m_24 325).trans rfl
set_option maxRecDepth 20000 in
theorem t_24_328 {Ls : Nat} {xs : Nat → Int32} : am_tbl Ls xs 24 328 = some (o_iload 2 1) := (m_24 328).trans rfl
set_option maxRecDepth 20000 in
theorem t_24_329 {Ls : Nat} {xs : Nat → Int32} : am_tbl Ls xs 24 329 = some (o_push (.int 2) 1) := (m_24 329).trans rfl
set_option maxRecDepth 20000 in
theorem t_24_330 {Ls : Nat} {xs : Nat → Int32} : am_tbl Ls xs 24 330 = some (o_icmp (fun x y => decide (x ≠ y)) 340) := (m_24 330).trans rfl
set_option maxRecDepth 20000 in
theorem t_24_333 {Ls : Nat} {xs : Nat → Int32} : am_tbl Ls xs 24 333 = some (o_aload 0 1) := (m_24 333).trans rfl
set_option maxRecDepth 20000 in
theorem t_24_334 {Ls : Nat} {xs : Nat → Int32} : am_tbl Ls xs 24 334 = some (o_callv 21 0 9 3) := (m_24 334).trans rfl
set_option maxRecDepth 20000 in
theorem t_24_337 {Ls : Nat} {xs : Nat → Int32} : am_tbl Ls xs 24 337 = some (o_goto 356) := (m_24 337).trans rfl
set_option maxRecDepth 20000 in
theorem t_24_340 {Ls : Nat} {xs : Nat → Int32} : am_tbl Ls xs 24 340 = some (o_iload 2 1) := (m_24 340).trans rfl
set_option maxRecDepth 20000 in
theorem t_24_341 {Ls : Nat} {xs : Nat → Int32} : am_tbl Ls xs 24 341 = some (o_push (.int 3) 1) := (m_24 341).trans rfl
set_option maxRecDepth 20000 in
theorem t_24_342 {Ls : Nat} {xs : Nat → Int32} : am_tbl Ls xs 24 342 = some (o_icmp (fun x y => decide (x ≠ y)) 352) := (m_24 342).trans rfl
set_option maxRecDepth 20000 in
theorem t_24_345 {Ls : Nat} {xs : Nat → Int32} : am_tbl Ls xs 24 345 = some (o_aload 0 1) := (m_24 345).trans rfl
set_option maxRecDepth 20000 in
theorem t_24_346 {Ls : Nat} {xs : Nat → Int32} : am_tbl Ls xs 24 346 = some (o_callv 22 0 9 2) := (m_24 346).trans rfl
set_option maxRecDepth 20000 in
theorem t_24_349 {Ls : Nat} {xs : Nat → Int32} : am_tbl Ls xs 24 349 = some (o_goto 356) := (m_24 349).trans rfl
set_option maxRecDepth 20000 in
theorem t_24_352 {Ls : Nat} {xs : Nat → Int32} : am_tbl Ls xs 24 352 = some (o_aload 0 1) := (m_24 352).trans rfl
set_option maxRecDepth 20000 in
theorem t_24_353 {Ls : Nat} {xs : Nat → Int32} : am_tbl Ls xs 24 353 = some (o_callv 23 0 9 2) := (m_24 353).trans rfl
set_option maxRecDepth 20000 in
theorem t_24_356 {Ls : Nat} {xs : Nat → Int32} : am_tbl Ls xs 24 356 = some (o_nrm [0] (o_istore 4 2)) := (m_24 356).trans rfl
set_option maxRecDepth 20000 in
theorem t_24_358 {Ls : Nat} {xs : Nat → Int32} : am_tbl Ls xs 24 358 = some (o_iload 4 2) := (m_24 358).trans rfl
set_option maxRecDepth 20000 in
theorem t_24_360 {Ls : Nat} {xs : Nat → Int32} : am_tbl Ls xs 24 360 = some (o_if (fun x => decide (x ≠ 0)) 382) := (m_24 360).trans rfl
set_option maxRecDepth 20000 in
theorem t_24_363 {Ls : Nat} {xs : Nat → Int32} : am_tbl Ls xs 24 363 = some (o_aload 0 1) := (m_24 363).trans rfl
set_option maxRecDepth 20000 in
theorem t_24_364 {Ls : Nat} {xs : Nat → Int32} : am_tbl Ls xs 24 364 = some (o_callv 10 0 9 1) := (m_24 364).trans rfl
set_option maxRecDepth 20000 in
theorem t_24_367 {Ls : Nat} {xs : Nat → Int32} : am_tbl Ls xs 24 367 = some (o_push (.int 59) 2) := (m_24 367).trans rfl
set_option maxRecDepth 20000 in
theorem t_24_369 {Ls : Nat} {xs : Nat → Int32} : am_tbl Ls xs 24 369 = some (o_icmp (fun x y => decide (x = y)) 382) := (m_24 369).trans rfl
set_option maxRecDepth 20000 in
theorem t_24_372 {Ls : Nat} {xs : Nat → Int32} : am_tbl Ls xs 24 372 = some (o_aload 0 1) := (m_24 372).trans rfl
set_option maxRecDepth 20000 in
theorem t_24_373 {Ls : Nat} {xs : Nat → Int32} : am_tbl Ls xs 24 373 = some (o_push (.int 1) 1) := (m_24 373).trans rfl
set_option maxRecDepth 20000 in
theorem t_24_374 {Ls : Nat} {xs : Nat → Int32} : am_tbl Ls xs 24 374 = some (o_aload 0 1) := (m_24 374).trans rfl
set_option maxRecDepth 20000 in
theorem t_24_375 {Ls : Nat} {xs : Nat → Int32} : am_tbl Ls xs 24 375 = some (o_get 9 20) := (m_24 375).trans rfl
set_option maxRecDepth 20000 in
theorem t_24_378 {Ls : Nat} {xs : Nat → Int32} : am_tbl Ls xs 24 378 = some (o_callv 11 2 9 3) := (m_24 378).trans rfl
set_option maxRecDepth 20000 in
theorem t_24_381 {Ls : Nat} {xs : Nat → Int32} : am_tbl Ls xs 24 381 = some (o_iret) := (m_24 381).trans rfl
set_option maxRecDepth 20000 in
theorem t_24_382 {Ls : Nat} {xs : Nat → Int32} : am_tbl Ls xs 24 382 = some (o_nrm [0, 4] (o_aload 0 1)) := (m_24 382).trans rfl
set_option maxRecDepth 20000 in
theorem t_24_383 {Ls : Nat} {xs : Nat → Int32} : am_tbl Ls xs 24 383 = some (o_dup) := (m_24 383).trans rfl
set_option maxRecDepth 20000 in
theorem t_24_384 {Ls : Nat} {xs : Nat → Int32} : am_tbl Ls xs 24 384 = some (o_get 9 20) := (m_24 384).trans rfl
set_option maxRecDepth 20000 in
theorem t_24_387 {Ls : Nat} {xs : Nat → Int32} : am_tbl Ls xs 24 387 = some (o_push (.int 1) 1) := (m_24 387).trans rfl
set_option maxRecDepth 20000 in
theorem t_24_388 {Ls : Nat} {xs : Nat → Int32} : am_tbl Ls xs 24 388 = some (o_ibin (fun x y => x + y)) := (m_24 388).trans rfl
set_option maxRecDepth 20000 in
theorem t_24_389 {Ls : Nat} {xs : Nat → Int32} : am_tbl Ls xs 24 389 = some (o_puti 9 20) := (m_24 389).trans rfl
set_option maxRecDepth 20000 in
theorem t_24_392 {Ls : Nat} {xs : Nat → Int32} : am_tbl Ls xs 24 392 = some (o_iload 4 2) := (m_24 392).trans rfl
set_option maxRecDepth 20000 in
theorem t_24_394 {Ls : Nat} {xs : Nat → Int32} : am_tbl Ls xs 24 394 = some (o_iret) := (m_24 394).trans rfl
theorem m_25 {Ls : Nat} {xs : Nat → Int32} (pc : Nat) : am_tbl Ls xs 25 pc = am_lk (op_X9_ground) pc := rfl
theorem t_25_0 {Ls : Nat} {xs : Nat → Int32} : am_tbl Ls xs 25 0 = some (o_aload 0 1) := (m_25 0).trans rfl
theorem t_25_1 {Ls : Nat} {xs : Nat → Int32} : am_tbl Ls xs 25 1 = some (o_push (.int (-1)) 1) := (m_25 1).trans rfl
theorem t_25_2 {Ls : Nat} {xs : Nat → Int32} : am_tbl Ls xs 25 2 = some (o_puti 9 19) := (m_25 2).trans rfl
theorem t_25_5 {Ls : Nat} {xs : Nat → Int32} : am_tbl Ls xs 25 5 = some (o_aload 0 1) := (m_25 5).trans rfl
theorem t_25_6 {Ls : Nat} {xs : Nat → Int32} : am_tbl Ls xs 25 6 = some (o_push (.int 0) 1) := (m_25 6).trans rfl
theorem t_25_7 {Ls : Nat} {xs : Nat → Int32} : am_tbl Ls xs 25 7 = some (o_puti 9 20) := (m_25 7).trans rfl
theorem t_25_10 {Ls : Nat} {xs : Nat → Int32} : am_tbl Ls xs 25 10 = some (o_aload 0 1) := (m_25 10).trans rfl
theorem t_25_11 {Ls : Nat} {xs : Nat → Int32} : am_tbl Ls xs 25 11 = some (o_push (.int 0) 1) := (m_25 11).trans rfl
theorem t_25_12 {Ls : Nat} {xs : Nat → Int32} : am_tbl Ls xs 25 12 = some (o_puti 9 25) := (m_25 12).trans rfl
theorem t_25_15 {Ls : Nat} {xs : Nat → Int32} : am_tbl Ls xs 25 15 = some (o_aload 0 1) := (m_25 15).trans rfl
theorem t_25_16 {Ls : Nat} {xs : Nat → Int32} : am_tbl Ls xs 25 16 = some (o_push (.int 0) 1) := (m_25 16).trans rfl
theorem t_25_17 {Ls : Nat} {xs : Nat → Int32} : am_tbl Ls xs 25 17 = some (o_puti 9 26) := (m_25 17).trans rfl
theorem t_25_20 {Ls : Nat} {xs : Nat → Int32} : am_tbl Ls xs 25 20 = some (o_aload 0 1) := (m_25 20).trans rfl
theorem t_25_21 {Ls : Nat} {xs : Nat → Int32} : am_tbl Ls xs 25 21 = some (o_push (.int 0) 1) := (m_25 21).trans rfl
theorem t_25_22 {Ls : Nat} {xs : Nat → Int32} : am_tbl Ls xs 25 22 = some (o_puti 9 27) := (m_25 22).trans rfl
theorem t_25_25 {Ls : Nat} {xs : Nat → Int32} : am_tbl Ls xs 25 25 = some (o_aload 0 1) := (m_25 25).trans rfl
theorem t_25_26 {Ls : Nat} {xs : Nat → Int32} : am_tbl Ls xs 25 26 = some (o_push (.int 0) 1) := (m_25 26).trans rfl
theorem t_25_27 {Ls : Nat} {xs : Nat → Int32} : am_tbl Ls xs 25 27 = some (o_puti 9 29) := (m_25 27).trans rfl
theorem t_25_30 {Ls : Nat} {xs : Nat → Int32} : am_tbl Ls xs 25 30 = some (o_aload 0 1) := (m_25 30).trans rfl
theorem t_25_31 {Ls : Nat} {xs : Nat → Int32} : am_tbl Ls xs 25 31 = some (o_push (.int 0) 1) := (m_25 31).trans rfl
theorem t_25_32 {Ls : Nat} {xs : Nat → Int32} : am_tbl Ls xs 25 32 = some (o_puti 9 34) := (m_25 32).trans rfl
theorem t_25_35 {Ls : Nat} {xs : Nat → Int32} : am_tbl Ls xs 25 35 = some (o_aload 0 1) := (m_25 35).trans rfl
theorem t_25_36 {Ls : Nat} {xs : Nat → Int32} : am_tbl Ls xs 25 36 = some (o_push (.int (-1)) 1) := (m_25 36).trans rfl
theorem t_25_37 {Ls : Nat} {xs : Nat → Int32} : am_tbl Ls xs 25 37 = some (o_puti 9 37) := (m_25 37).trans rfl
theorem t_25_40 {Ls : Nat} {xs : Nat → Int32} : am_tbl Ls xs 25 40 = some (o_push (.int 0) 1) := (m_25 40).trans rfl
theorem t_25_41 {Ls : Nat} {xs : Nat → Int32} : am_tbl Ls xs 25 41 = some (o_istore 1 1) := (m_25 41).trans rfl
theorem t_25_42 {Ls : Nat} {xs : Nat → Int32} : am_tbl Ls xs 25 42 = some (o_nrm [0, 1] (o_iload 1 1)) := (m_25 42).trans rfl
theorem t_25_43 {Ls : Nat} {xs : Nat → Int32} : am_tbl Ls xs 25 43 = some (o_push (.int 48) 2) := (m_25 43).trans rfl
theorem t_25_45 {Ls : Nat} {xs : Nat → Int32} : am_tbl Ls xs 25 45 = some (o_icmp (fun x y => decide (y ≤ x)) 61) := (m_25 45).trans rfl
theorem t_25_48 {Ls : Nat} {xs : Nat → Int32} : am_tbl Ls xs 25 48 = some (o_aload 0 1) := (m_25 48).trans rfl
theorem t_25_49 {Ls : Nat} {xs : Nat → Int32} : am_tbl Ls xs 25 49 = some (o_get 9 28) := (m_25 49).trans rfl
theorem t_25_52 {Ls : Nat} {xs : Nat → Int32} : am_tbl Ls xs 25 52 = some (o_iload 1 1) := (m_25 52).trans rfl
theorem t_25_53 {Ls : Nat} {xs : Nat → Int32} : am_tbl Ls xs 25 53 = some (o_push (.int 0) 1) := (m_25 53).trans rfl
theorem t_25_54 {Ls : Nat} {xs : Nat → Int32} : am_tbl Ls xs 25 54 = some (o_iast 1 (fun x => x)) := (m_25 54).trans rfl
theorem t_25_55 {Ls : Nat} {xs : Nat → Int32} : am_tbl Ls xs 25 55 = some (o_iinc 1 1) := (m_25 55).trans rfl
theorem t_25_58 {Ls : Nat} {xs : Nat → Int32} : am_tbl Ls xs 25 58 = some (o_goto 42) := (m_25 58).trans rfl
theorem t_25_61 {Ls : Nat} {xs : Nat → Int32} : am_tbl Ls xs 25 61 = some (o_push (.int 0) 1) := (m_25 61).trans rfl
theorem t_25_62 {Ls : Nat} {xs : Nat → Int32} : am_tbl Ls xs 25 62 = some (o_istore 1 1) := (m_25 62).trans rfl
theorem t_25_63 {Ls : Nat} {xs : Nat → Int32} : am_tbl Ls xs 25 63 = some (o_nrm [0, 1] (o_iload 1 1)) := (m_25 63).trans rfl
theorem t_25_64 {Ls : Nat} {xs : Nat → Int32} : am_tbl Ls xs 25 64 = some (o_if (fun x => decide (x ≠ 0)) 82) := (m_25 64).trans rfl
theorem t_25_67 {Ls : Nat} {xs : Nat → Int32} : am_tbl Ls xs 25 67 = some (o_aload 0 1) := (m_25 67).trans rfl
theorem t_25_68 {Ls : Nat} {xs : Nat → Int32} : am_tbl Ls xs 25 68 = some (o_callv 10 0 9 1) := (m_25 68).trans rfl
theorem t_25_71 {Ls : Nat} {xs : Nat → Int32} : am_tbl Ls xs 25 71 = some (o_if (fun x => decide (x < 0)) 82) := (m_25 71).trans rfl
theorem t_25_74 {Ls : Nat} {xs : Nat → Int32} : am_tbl Ls xs 25 74 = some (o_aload 0 1) := (m_25 74).trans rfl
theorem t_25_75 {Ls : Nat} {xs : Nat → Int32} : am_tbl Ls xs 25 75 = some (o_callv 24 0 9 5) := (m_25 75).trans rfl
theorem t_25_78 {Ls : Nat} {xs : Nat → Int32} : am_tbl Ls xs 25 78 = some (o_istore 1 1) := (m_25 78).trans rfl
theorem t_25_79 {Ls : Nat} {xs : Nat → Int32} : am_tbl Ls xs 25 79 = some (o_goto 63) := (m_25 79).trans rfl
theorem t_25_82 {Ls : Nat} {xs : Nat → Int32} : am_tbl Ls xs 25 82 = some (o_nrm [0, 1] (o_aload 0 1)) := (m_25 82).trans rfl
theorem t_25_83 {Ls : Nat} {xs : Nat → Int32} : am_tbl Ls xs 25 83 = some (o_push (.int 0) 1) := (m_25 83).trans rfl
theorem t_25_84 {Ls : Nat} {xs : Nat → Int32} : am_tbl Ls xs 25 84 = some (o_puti 9 18) := (m_25 84).trans rfl
theorem t_25_87 {Ls : Nat} {xs : Nat → Int32} : am_tbl Ls xs 25 87 = some (o_iload 1 1) := (m_25 87).trans rfl
theorem t_25_88 {Ls : Nat} {xs : Nat → Int32} : am_tbl Ls xs 25 88 = some (o_if (fun x => decide (x ≤ 0)) 96) := (m_25 88).trans rfl
theorem t_25_91 {Ls : Nat} {xs : Nat → Int32} : am_tbl Ls xs 25 91 = some (o_push (.int (-10)) 2) := (m_25 91).trans rfl
theorem t_25_93 {Ls : Nat} {xs : Nat → Int32} : am_tbl Ls xs 25 93 = some (o_iload 1 1) := (m_25 93).trans rfl
theorem t_25_94 {Ls : Nat} {xs : Nat → Int32} : am_tbl Ls xs 25 94 = some (o_ibin (fun x y => x - y)) := (m_25 94).trans rfl
theorem t_25_95 {Ls : Nat} {xs : Nat → Int32} : am_tbl Ls xs 25 95 = some (o_iret) := (m_25 95).trans rfl
theorem t_25_96 {Ls : Nat} {xs : Nat → Int32} : am_tbl Ls xs 25 96 = some (o_aload 0 1) := (m_25 96).trans rfl
theorem t_25_97 {Ls : Nat} {xs : Nat → Int32} : am_tbl Ls xs 25 97 = some (o_aload 0 1) := (m_25 97).trans rfl
theorem t_25_98 {Ls : Nat} {xs : Nat → Int32} : am_tbl Ls xs 25 98 = some (o_get 9 25) := (m_25 98).trans rfl
theorem t_25_101 {Ls : Nat} {xs : Nat → Int32} : am_tbl Ls xs 25 101 = some (o_puti 9 0) := (m_25 101).trans rfl
theorem t_25_104 {Ls : Nat} {xs : Nat → Int32} : am_tbl Ls xs 25 104 = some (o_aload 0 1) := (m_25 104).trans rfl
set_option maxRecDepth 20000 in
theorem t_25_105 {Ls : Nat} {xs : Nat → Int32} : am_tbl Ls xs 25 105 = some (o_aload 0 1) := (m_25 105).trans rfl
set_option maxRecDepth 20000 in
theorem t_25_106 {Ls : Nat} {xs : Nat → Int32} : am_tbl Ls xs 25 106 = some (o_get 9 26) := (m_25 106).trans rfl
set_option maxRecDepth 20000 in
theorem t_25_109 {Ls : Nat} {xs : Nat → Int32} : am_tbl Ls xs 25 109 = some (o_puti 9 1) := (m_25 109).trans rfl
set_option maxRecDepth 20000 in
theorem t_25_112 {Ls : Nat} {xs : Nat → Int32} : am_tbl Ls xs 25 112 = some (o_aload 0 1) := (m_25 112).trans rfl
set_option maxRecDepth 20000 in
theorem t_25_113 {Ls : Nat} {xs : Nat → Int32} : am_tbl Ls xs 25 113 = some (o_aload 0 1) := (m_25 113).trans rfl
set_option maxRecDepth 20000 in
theorem t_25_114 {Ls : Nat} {xs : Nat → Int32} : am_tbl Ls xs 25 114 = some (o_get 9 29) := (m_25 114).trans rfl
set_option maxRecDepth 20000 in
theorem t_25_117 {Ls : Nat} {xs : Nat → Int32} : am_tbl Ls xs 25 117 = some (o_puti 9 3) := (m_25 117).trans rfl
set_option maxRecDepth 20000 in
theorem t_25_120 {Ls : Nat} {xs : Nat → Int32} : am_tbl Ls xs 25 120 = some (o_aload 0 1) := (m_25 120).trans rfl
set_option maxRecDepth 20000 in
theorem t_25_121 {Ls : Nat} {xs : Nat → Int32} : am_tbl Ls xs 25 121 = some (o_aload 0 1) := (m_25 121).trans rfl
set_option maxRecDepth 20000 in
theorem t_25_122 {Ls : Nat} {xs : Nat → Int32} : am_tbl Ls xs 25 122 = some (o_get 9 34) := (m_25 122).trans rfl
set_option maxRecDepth 20000 in
theorem t_25_125 {Ls : Nat} {xs : Nat → Int32} : am_tbl Ls xs 25 125 = some (o_puti 9 8) := (m_25 125).trans rfl
set_option maxRecDepth 20000 in
theorem t_25_128 {Ls : Nat} {xs : Nat → Int32} : am_tbl Ls xs 25 128 = some (o_aload 0 1) := (m_25 128).trans rfl
set_option maxRecDepth 20000 in
theorem t_25_129 {Ls : Nat} {xs : Nat → Int32} : am_tbl Ls xs 25 129 = some (o_aload 0 1) := (m_25 129).trans rfl
set_option maxRecDepth 20000 in
theorem t_25_130 {Ls : Nat} {xs : Nat → Int32} : am_tbl Ls xs 25 130 = some (o_get 9 37) := (m_25 130).trans rfl
set_option maxRecDepth 20000 in
theorem t_25_133 {Ls : Nat} {xs : Nat → Int32} : am_tbl Ls xs 25 133 = some (o_if (fun x => decide (0 ≤ x)) 140) := (m_25 133).trans rfl
set_option maxRecDepth 20000 in
theorem t_25_136 {Ls : Nat} {xs : Nat → Int32} : am_tbl Ls xs 25 136 = some (o_push (.int 0) 1) := (m_25 136).trans rfl
set_option maxRecDepth 20000 in
theorem t_25_137 {Ls : Nat} {xs : Nat → Int32} : am_tbl Ls xs 25 137 = some (o_goto 144) := (m_25 137).trans rfl
set_option maxRecDepth 20000 in
theorem t_25_140 {Ls : Nat} {xs : Nat → Int32} : am_tbl Ls xs 25 140 = some (o_aload 0 1) := (m_25 140).trans rfl
set_option maxRecDepth 20000 in
theorem t_25_141 {Ls : Nat} {xs : Nat → Int32} : am_tbl Ls xs 25 141 = some (o_get 9 37) := (m_25 141).trans rfl
set_option maxRecDepth 20000 in
theorem t_25_144 {Ls : Nat} {xs : Nat → Int32} : am_tbl Ls xs 25 144 = some (o_nrm [0] (o_puti 9 13)) := (m_25 144).trans rfl
set_option maxRecDepth 20000 in
theorem t_25_147 {Ls : Nat} {xs : Nat → Int32} : am_tbl Ls xs 25 147 = some (o_push (.int 0) 1) := (m_25 147).trans rfl
set_option maxRecDepth 20000 in
theorem t_25_148 {Ls : Nat} {xs : Nat → Int32} : am_tbl Ls xs 25 148 = some (o_istore 2 1) := (m_25 148).trans rfl
set_option maxRecDepth 20000 in
theorem t_25_149 {Ls : Nat} {xs : Nat → Int32} : am_tbl Ls xs 25 149 = some (o_nrm [0, 2] (o_iload 2 1)) := (m_25 149).trans rfl
set_option maxRecDepth 20000 in
theorem t_25_150 {Ls : Nat} {xs : Nat → Int32} : am_tbl Ls xs 25 150 = some (o_push (.int 48) 2) := (m_25 150).trans rfl
set_option maxRecDepth 20000 in
theorem t_25_152 {Ls : Nat} {xs : Nat → Int32} : am_tbl Ls xs 25 152 = some (o_icmp (fun x y => decide (y ≤ x)) 173) := (m_25 152).trans rfl
set_option maxRecDepth 20000 in
theorem t_25_155 {Ls : Nat} {xs : Nat → Int32} : am_tbl Ls xs 25 155 = some (o_aload 0 1) := (m_25 155).trans rfl
set_option maxRecDepth 20000 in
theorem t_25_156 {Ls : Nat} {xs : Nat → Int32} : am_tbl Ls xs 25 156 = some (o_get 9 2) := (m_25 156).trans rfl
set_option maxRecDepth 20000 in
theorem t_25_159 {Ls : Nat} {xs : Nat → Int32} : am_tbl Ls xs 25 159 = some (o_iload 2 1) := (m_25 159).trans rfl
set_option maxRecDepth 20000 in
theorem t_25_160 {Ls : Nat} {xs : Nat → Int32} : am_tbl Ls xs 25 160 = some (o_aload 0 1) := (m_25 160).trans rfl
set_option maxRecDepth 20000 in
theorem t_25_161 {Ls : Nat} {xs : Nat → Int32} : am_tbl Ls xs 25 161 = some (o_get 9 28) := (m_25 161).trans rfl
set_option maxRecDepth 20000 in
theorem t_25_164 {Ls : Nat} {xs : Nat → Int32} : am_tbl Ls xs 25 164 = some (o_iload 2 1) := (m_25 164).trans rfl
set_option maxRecDepth 20000 in
theorem t_25_165 {Ls : Nat} {xs : Nat → Int32} : am_tbl Ls xs 25 165 = some (o_iald 1) := (m_25 165).trans rfl
set_option maxRecDepth 20000 in
theorem t_25_166 {Ls : Nat} {xs : Nat → Int32} : am_tbl Ls xs 25 166 = some (o_iast 1 (fun x => x)) := (m_25 166).trans rfl
set_option maxRecDepth 20000 in
theorem t_25_167 {Ls : Nat} {xs : Nat → Int32} : am_tbl Ls xs 25 167 = some (o_iinc 2 1) := (m_25 167).trans rfl
set_option maxRecDepth 20000 in
theorem t_25_170 {Ls : Nat} {xs : Nat → Int32} : am_tbl Ls xs 25 170 = some (o_goto 149) := (m_25 170).trans rfl
set_option maxRecDepth 20000 in
theorem t_25_173 {Ls : Nat} {xs : Nat → Int32} : am_tbl Ls xs 25 173 = some (o_push (.int 0) 1) := (m_25 173).trans rfl
set_option maxRecDepth 20000 in
theorem t_25_174 {Ls : Nat} {xs : Nat → Int32} : am_tbl Ls xs 25 174 = some (o_istore 2 1) := (m_25 174).trans rfl
set_option maxRecDepth 20000 in
theorem t_25_175 {Ls : Nat} {xs : Nat → Int32} : am_tbl Ls xs 25 175 = some (o_nrm [0, 2] (o_iload 2 1)) := (m_25 175).trans rfl
set_option maxRecDepth 20000 in
theorem t_25_176 {Ls : Nat} {xs : Nat → Int32} : am_tbl Ls xs 25 176 = some (o_push (.int 6) 2) := (m_25 176).trans rfl
set_option maxRecDepth 20000 in
theorem t_25_178 {Ls : Nat} {xs : Nat → Int32} : am_tbl Ls xs 25 178 = some (o_icmp (fun x y => decide (y ≤ x)) 277) := (m_25 178).trans rfl
set_option maxRecDepth 20000 in
theorem t_25_181 {Ls : Nat} {xs : Nat → Int32} : am_tbl Ls xs 25 181 = some (o_aload 0 1) := (m_25 181).trans rfl
set_option maxRecDepth 20000 in
theorem t_25_182 {Ls : Nat} {xs : Nat → Int32} : am_tbl Ls xs 25 182 = some (o_get 9 4) := (m_25 182).trans rfl
set_option maxRecDepth 20000 in
theorem t_25_185 {Ls : Nat} {xs : Nat → Int32} : am_tbl Ls xs 25 185 = some (o_iload 2 1) := (m_25 185).trans rfl
set_option maxRecDepth 20000 in
theorem t_25_186 {Ls : Nat} {xs : Nat → Int32} : am_tbl Ls xs 25 186 = some (o_aload 0 1) := (m_25 186).trans rfl
set_option maxRecDepth 20000 in
theorem t_25_187 {Ls : Nat} {xs : Nat → Int32} : am_tbl Ls xs 25 187 = some (o_get 9 30) := (m_25 187).trans rfl
set_option maxRecDepth 20000 in
theorem t_25_190 {Ls : Nat} {xs : Nat → Int32} : am_tbl Ls xs 25 190 = some (o_iload 2 1) := (m_25 190).trans rfl
set_option maxRecDepth 20000 in
theorem t_25_191 {Ls : Nat} {xs : Nat → Int32} : am_tbl Ls xs 25 191 = some (o_iald 1) := (m_25 191).trans rfl
set_option maxRecDepth 20000 in
theorem t_25_192 {Ls : Nat} {xs : Nat → Int32} : am_tbl Ls xs 25 192 = some (o_push (.int 1) 1) := (m_25 192).trans rfl
set_option maxRecDepth 20000 in
theorem t_25_193 {Ls : Nat} {xs : Nat → Int32} : am_tbl Ls xs 25 193 = some (o_ibin (fun x y => x - y)) := (m_25 193).trans rfl
set_option maxRecDepth 20000 in
theorem t_25_194 {Ls : Nat} {xs : Nat → Int32} : am_tbl Ls xs 25 194 = some (o_iast 1 (fun x => x)) := (m_25 194).trans rfl
set_option maxRecDepth 20000 in
theorem t_25_195 {Ls : Nat} {xs : Nat → Int32} : am_tbl Ls xs 25 195 = some (o_aload 0 1) := (m_25 195).trans rfl
set_option maxRecDepth 20000 in
theorem t_25_196 {Ls : Nat} {xs : Nat → Int32} : am_tbl Ls xs 25 196 = some (o_get 9 5) := (m_25 196).trans rfl
set_option maxRecDepth 20000 in
theorem t_25_199 {Ls : Nat} {xs : Nat → Int32} : am_tbl Ls xs 25 199 = some (o_iload 2 1) := (m_25 199).trans rfl
set_option maxRecDepth 20000 in
theorem t_25_200 {Ls : Nat} {xs : Nat → Int32} : am_tbl Ls xs 25 200 = some (o_aload 0 1) := (m_25 200).trans rfl
set_option maxRecDepth 20000 in
theorem t_25_201 {Ls : Nat} {xs : Nat → Int32} : am_tbl Ls xs 25 201 = some (o_get 9 31) := (m_25 201).trans rfl
set_option maxRecDepth 20000 in
theorem t_25_204 {Ls : Nat} {xs : Nat → Int32} : am_tbl Ls xs 25 204 = some (o_iload 2 1) := (m_25 204).trans rfl
set_option maxRecDepth 20000 in
theorem t_25_205 {Ls : Nat} {xs : Nat → Int32} : am_tbl Ls xs 25 205 = some (o_iald 1) := (m_25 205).trans rfl
set_option maxRecDepth 20000 in
theorem t_25_206 {Ls : Nat} {xs : Nat → Int32} : am_tbl Ls xs 25 206 = some (o_push (.int 1) 1) := (m_25 206).trans rfl
set_option maxRecDepth 20000 in
theorem t_25_207 {Ls : Nat} {xs : Nat → Int32} : am_tbl Ls xs 25 207 = some (o_ibin (fun x y => x - y)) := (m_25 207).trans rfl
set_option maxRecDepth 20000 in
theorem t_25_208 {Ls : Nat} {xs : Nat → Int32} : am_tbl Ls xs 25 208 = some (o_iast 1 (fun x => x)) := (m_25 208).trans rfl
set_option maxRecDepth 20000 in
theorem t_25_209 {Ls : Nat} {xs : Nat → Int32} : am_tbl Ls xs 25 209 = some (o_aload 0 1) := (m_25 209).trans rfl
set_option maxRecDepth 20000 in
theorem t_25_210 {Ls : Nat} {xs : Nat → Int32} : am_tbl Ls xs 25 210 = some (o_get 9 6) := (m_25 210).trans rfl
set_option maxRecDepth 20000 in
theorem t_25_213 {Ls : Nat} {xs : Nat → Int32} : am_tbl Ls xs 25 213 = some (o_iload 2 1) := (m_25 213).trans rfl
set_option maxRecDepth 20000 in
theorem t_25_214 {Ls : Nat} {xs : Nat → Int32} : am_tbl Ls xs 25 214 = some (o_aload 0 1) := (m_25 214).trans rfl
set_option maxRecDepth 20000 in
theorem t_25_215 {Ls : Nat} {xs : Nat → Int32} : am_tbl Ls xs 25 215 = some (o_get 9 32) := (m_25 215).trans rfl
set_option maxRecDepth 20000 in
theorem t_25_218 {Ls : Nat} {xs : Nat → Int32} : am_tbl Ls xs 25 218 = some (o_iload 2 1) := (m_25 218).trans rfl
set_option maxRecDepth 20000 in
theorem t_25_219 {Ls : Nat} {xs : Nat → Int32} : am_tbl Ls xs 25 219 = some (o_iald 1) := (m_25 219).trans rfl
set_option maxRecDepth 20000 in
theorem t_25_220 {Ls : Nat} {xs : Nat → Int32} : am_tbl Ls xs 25 220 = some (o_iast 1 (fun x => x)) := (m_25 220).trans rfl
set_option maxRecDepth 20000 in
theorem t_25_221 {Ls : Nat} {xs : Nat → Int32} : am_tbl Ls xs 25 221 = some (o_aload 0 1) := (m_25 221).trans rfl
set_option maxRecDepth 20000 in
theorem t_25_222 {Ls : Nat} {xs : Nat → Int32} : am_tbl Ls xs 25 222 = some (o_get 9 7) := (m_25 222).trans rfl
set_option maxRecDepth 20000 in
theorem t_25_225 {Ls : Nat} {xs : Nat → Int32} : am_tbl Ls xs 25 225 = some (o_iload 2 1) := (m_25 225).trans rfl
set_option maxRecDepth 20000 in
theorem t_25_226 {Ls : Nat} {xs : Nat → Int32} : am_tbl Ls xs 25 226 = some (o_aload 0 1) := (m_25 226).trans rfl
set_option maxRecDepth 20000 in
theorem t_25_227 {Ls : Nat} {xs : Nat → Int32} : am_tbl Ls xs 25 227 = some (o_get 9 33) := (m_25 227).trans rfl
set_option maxRecDepth 20000 in
theorem t_25_230 {Ls : Nat} {xs : Nat → Int32} : am_tbl Ls xs 25 230 = some (o_iload 2 1) := (m_25 230).trans rfl
set_option maxRecDepth 20000 in
theorem t_25_231 {Ls : Nat} {xs : Nat → Int32} : am_tbl Ls xs 25 231 = some (o_iald 1) := (m_25 231).trans rfl
set_option maxRecDepth 20000 in
theorem t_25_232 {Ls : Nat} {xs : Nat → Int32} : am_tbl Ls xs 25 232 = some (o_iast 1 (fun x => x)) := (m_25 232).trans rfl
set_option maxRecDepth 20000 in
theorem t_25_233 {Ls : Nat} {xs : Nat → Int32} : am_tbl Ls xs 25 233 = some (o_aload 0 1) := (m_25 233).trans rfl
set_option maxRecDepth 20000 in
theorem t_25_234 {Ls : Nat} {xs : Nat → Int32} : am_tbl Ls xs 25 234 = some (o_get 9 9) := (m_25 234).trans rfl
set_option maxRecDepth 20000 in
theorem t_25_237 {Ls : Nat} {xs : Nat → Int32} : am_tbl Ls xs 25 237 = some (o_iload 2 1) := (m_25 237).trans rfl
set_option maxRecDepth 20000 in
theorem t_25_238 {Ls : Nat} {xs : Nat → Int32} : am_tbl Ls xs 25 238 = some (o_aload 0 1) := (m_25 238).trans rfl
set_option maxRecDepth 20000 in
theorem t_25_239 {Ls : Nat} {xs : Nat → Int32} : am_tbl Ls xs 25 239 = some (o_get 9 35) := (m_25 239).trans rfl
set_option maxRecDepth 20000 in
theorem t_25_242 {Ls : Nat} {xs : Nat → Int32} : am_tbl Ls xs 25 242 = some (o_iload 2 1) := (m_25 242).trans rfl
set_option maxRecDepth 20000 in
theorem t_25_243 {Ls : Nat} {xs : Nat → Int32} : am_tbl Ls xs 25 243 = some (o_iald 1) := (m_25 243).trans rfl
set_option maxRecDepth 20000 in
theorem t_25_244 {Ls : Nat} {xs : Nat → Int32} : am_tbl Ls xs 25 244 = some (o_iast 1 (fun x => x)) := (m_25 244).trans rfl
set_option maxRecDepth 20000 in
theorem t_25_245 {Ls : Nat} {xs : Nat → Int32} : am_tbl Ls xs 25 245 = some (o_aload 0 1) := (m_25 245).trans rfl
set_option maxRecDepth 20000 in
theorem t_25_246 {Ls : Nat} {xs : Nat → Int32} : am_tbl Ls xs 25 246 = some (o_get 9 10) := (m_25 246).trans rfl
set_option maxRecDepth 20000 in
theorem t_25_249 {Ls : Nat} {xs : Nat → Int32} : am_tbl Ls xs 25 249 = some (o_iload 2 1) := (m_25 249).trans rfl
set_option maxRecDepth 20000 in
theorem t_25_250 {Ls : Nat} {xs : Nat → Int32} : am_tbl Ls xs 25 250 = some (o_aload 0 1) := (m_25 250).trans rfl
set_option maxRecDepth 20000 in
theorem t_25_251 {Ls : Nat} {xs : Nat → Int32} : am_tbl Ls xs 25 251 = some (o_get 9 36) := (m_25 251).trans rfl
set_option maxRecDepth 20000 in
theorem t_25_254 {Ls : Nat} {xs : Nat → Int32} : am_tbl Ls xs 25 254 = some (o_iload 2 1) := (m_25 254).trans rfl
set_option maxRecDepth 20000 in
theorem t_25_255 {Ls : Nat} {xs : Nat → Int32} : am_tbl Ls xs 25 255 = some (o_iald 1) := (m_25 255).trans rfl
set_option maxRecDepth 20000 in
theorem t_25_256 {Ls : Nat} {xs : Nat → Int32} : am_tbl Ls xs 25 256 = some (o_iast 1 (fun x => x)) := (m_25 256).trans rfl
set_option maxRecDepth 20000 in
theorem t_25_257 {Ls : Nat} {xs : Nat → Int32} : am_tbl Ls xs 25 257 = some (o_aload 0 1) := (m_25 257).trans rfl
set_option maxRecDepth 20000 in
theorem t_25_258 {Ls : Nat} {xs : Nat → Int32} : am_tbl Ls xs 25 258 = some (o_get 9 11) := (m_25 258).trans rfl
set_option maxRecDepth 20000 in
theorem t_25_261 {Ls : Nat} {xs : Nat → Int32} : am_tbl Ls xs 25 261 = some (o_iload 2 1) := (m_25 261).trans rfl
set_option maxRecDepth 20000 in
theorem t_25_262 {Ls : Nat} {xs : Nat → Int32} : am_tbl Ls xs 25 262 = some (o_push (.int 0) 1) := (m_25 262).trans rfl
set_option maxRecDepth 20000 in
theorem t_25_263 {Ls : Nat} {xs : Nat → Int32} : am_tbl Ls xs 25 263 = some (o_iast 3 (fun x => vp_nar .boolean x)) := (m_25 263).trans rfl
set_option maxRecDepth 20000 in
theorem t_25_264 {Ls : Nat} {xs : Nat → Int32} : am_tbl Ls xs 25 264 = some (o_aload 0 1) := (m_25 264).trans rfl
set_option maxRecDepth 20000 in
theorem t_25_265 {Ls : Nat} {xs : Nat → Int32} : am_tbl Ls xs 25 265 = some (o_get 9 12) := (m_25 265).trans rfl
set_option maxRecDepth 20000 in
theorem t_25_268 {Ls : Nat} {xs : Nat → Int32} : am_tbl Ls xs 25 268 = some (o_iload 2 1) := (m_25 268).trans rfl
set_option maxRecDepth 20000 in
theorem t_25_269 {Ls : Nat} {xs : Nat → Int32} : am_tbl Ls xs 25 269 = some (o_push (.int 0) 1) := (m_25 269).trans rfl
set_option maxRecDepth 20000 in
theorem t_25_270 {Ls : Nat} {xs : Nat → Int32} : am_tbl Ls xs 25 270 = some (o_iast 1 (fun x => x)) := (m_25 270).trans rfl
set_option maxRecDepth 20000 in
theorem t_25_271 {Ls : Nat} {xs : Nat → Int32} : am_tbl Ls xs 25 271 = some (o_iinc 2 1) := (m_25 271).trans rfl
set_option maxRecDepth 20000 in
theorem t_25_274 {Ls : Nat} {xs : Nat → Int32} : am_tbl Ls xs 25 274 = some (o_goto 175) := (m_25 274).trans rfl
set_option maxRecDepth 20000 in
theorem t_25_277 {Ls : Nat} {xs : Nat → Int32} : am_tbl Ls xs 25 277 = some (o_aload 0 1) := (m_25 277).trans rfl
set_option maxRecDepth 20000 in
theorem t_25_278 {Ls : Nat} {xs : Nat → Int32} : am_tbl Ls xs 25 278 = some (o_push (.int 0) 1) := (m_25 278).trans rfl
set_option maxRecDepth 20000 in
theorem t_25_279 {Ls : Nat} {xs : Nat → Int32} : am_tbl Ls xs 25 279 = some (o_puti 9 14) := (m_25 279).trans rfl
set_option maxRecDepth 20000 in
theorem t_25_282 {Ls : Nat} {xs : Nat → Int32} : am_tbl Ls xs 25 282 = some (o_aload 0 1) := (m_25 282).trans rfl
set_option maxRecDepth 20000 in
theorem t_25_283 {Ls : Nat} {xs : Nat → Int32} : am_tbl Ls xs 25 283 = some (o_push (.int 0) 1) := (m_25 283).trans rfl
set_option maxRecDepth 20000 in
theorem t_25_284 {Ls : Nat} {xs : Nat → Int32} : am_tbl Ls xs 25 284 = some (o_puti 9 43) := (m_25 284).trans rfl
set_option maxRecDepth 20000 in
theorem t_25_287 {Ls : Nat} {xs : Nat → Int32} : am_tbl Ls xs 25 287 = some (o_aload 0 1) := (m_25 287).trans rfl
set_option maxRecDepth 20000 in
theorem t_25_288 {Ls : Nat} {xs : Nat → Int32} : am_tbl Ls xs 25 288 = some (o_push (.int 0) 1) := (m_25 288).trans rfl
set_option maxRecDepth 20000 in
theorem t_25_289 {Ls : Nat} {xs : Nat → Int32} : am_tbl Ls xs 25 289 = some (o_puti 9 52) := (m_25 289).trans rfl
set_option maxRecDepth 20000 in
theorem t_25_292 {Ls : Nat} {xs : Nat → Int32} : am_tbl Ls xs 25 292 = some (o_aload 0 1) := (m_25 292).trans rfl
set_option maxRecDepth 20000 in
theorem t_25_293 {Ls : Nat} {xs : Nat → Int32} : am_tbl Ls xs 25 293 = some (o_push (.int 0) 1) := (m_25 293).trans rfl
set_option maxRecDepth 20000 in
theorem t_25_294 {Ls : Nat} {xs : Nat → Int32} : am_tbl Ls xs 25 294 = some (o_puti 9 55) := (m_25 294).trans rfl
set_option maxRecDepth 20000 in
theorem t_25_297 {Ls : Nat} {xs : Nat → Int32} : am_tbl Ls xs 25 297 = some (o_aload 0 1) := (m_25 297).trans rfl
set_option maxRecDepth 20000 in
theorem t_25_298 {Ls : Nat} {xs : Nat → Int32} : am_tbl Ls xs 25 298 = some (o_get 9 60) := (m_25 298).trans rfl
set_option maxRecDepth 20000 in
theorem t_25_301 {Ls : Nat} {xs : Nat → Int32} : am_tbl Ls xs 25 301 = some (o_push (.int 0) 1) := (m_25 301).trans rfl
set_option maxRecDepth 20000 in
theorem t_25_302 {Ls : Nat} {xs : Nat → Int32} : am_tbl Ls xs 25 302 = some (o_push (.int 0) 1) := (m_25 302).trans rfl
set_option maxRecDepth 20000 in
theorem t_25_303 {Ls : Nat} {xs : Nat → Int32} : am_tbl Ls xs 25 303 = some (o_iast 3 (fun x => vp_nar .boolean x)) := (m_25 303).trans rfl
set_option maxRecDepth 20000 in
theorem t_25_304 {Ls : Nat} {xs : Nat → Int32} : am_tbl Ls xs 25 304 = some (o_aload 0 1) := (m_25 304).trans rfl
set_option maxRecDepth 20000 in
theorem t_25_305 {Ls : Nat} {xs : Nat → Int32} : am_tbl Ls xs 25 305 = some (o_get 9 60) := (m_25 305).trans rfl
set_option maxRecDepth 20000 in
theorem t_25_308 {Ls : Nat} {xs : Nat → Int32} : am_tbl Ls xs 25 308 = some (o_push (.int 1) 1) := (m_25 308).trans rfl
set_option maxRecDepth 20000 in
theorem t_25_309 {Ls : Nat} {xs : Nat → Int32} : am_tbl Ls xs 25 309 = some (o_push (.int 0) 1) := (m_25 309).trans rfl
set_option maxRecDepth 20000 in
theorem t_25_310 {Ls : Nat} {xs : Nat → Int32} : am_tbl Ls xs 25 310 = some (o_iast 3 (fun x => vp_nar .boolean x)) := (m_25 310).trans rfl
set_option maxRecDepth 20000 in
theorem t_25_311 {Ls : Nat} {xs : Nat → Int32} : am_tbl Ls xs 25 311 = some (o_aload 0 1) := (m_25 311).trans rfl
set_option maxRecDepth 20000 in
theorem t_25_312 {Ls : Nat} {xs : Nat → Int32} : am_tbl Ls xs 25 312 = some (o_callv 7 0 9 1) := (m_25 312).trans rfl
set_option maxRecDepth 20000 in
theorem t_25_315 {Ls : Nat} {xs : Nat → Int32} : am_tbl Ls xs 25 315 = some (o_iret) := (m_25 315).trans rfl
theorem m_26 {Ls : Nat} {xs : Nat → Int32} (pc : Nat) : am_tbl Ls xs 26 pc = am_lk (op_X9_fault) pc := rfl
theorem t_26_0 {Ls : Nat} {xs : Nat → Int32} : am_tbl Ls xs 26 0 = some (o_aload 0 1) := (m_26 0).trans rfl
theorem t_26_1 {Ls : Nat} {xs : Nat → Int32} : am_tbl Ls xs 26 1 = some (o_get 9 19) := (m_26 1).trans rfl
theorem t_26_4 {Ls : Nat} {xs : Nat → Int32} : am_tbl Ls xs 26 4 = some (o_iret) := (m_26 4).trans rfl
theorem m_27 {Ls : Nat} {xs : Nat → Int32} (pc : Nat) : am_tbl Ls xs 27 pc = am_lk (op_X9_shadowOf) pc := rfl
theorem t_27_0 {Ls : Nat} {xs : Nat → Int32} : am_tbl Ls xs 27 0 = some (o_push (.long 0) 1) := (m_27 0).trans rfl
theorem t_27_1 {Ls : Nat} {xs : Nat → Int32} : am_tbl Ls xs 27 1 = some (o_lstore 4 2) := (m_27 1).trans rfl
theorem t_27_3 {Ls : Nat} {xs : Nat → Int32} : am_tbl Ls xs 27 3 = some (o_iload 1 1) := (m_27 3).trans rfl
theorem t_27_4 {Ls : Nat} {xs : Nat → Int32} : am_tbl Ls xs 27 4 = some (o_aload 0 1) := (m_27 4).trans rfl
theorem t_27_5 {Ls : Nat} {xs : Nat → Int32} : am_tbl Ls xs 27 5 = some (o_get 9 0) := (m_27 5).trans rfl
theorem t_27_8 {Ls : Nat} {xs : Nat → Int32} : am_tbl Ls xs 27 8 = some (o_idv (fun x y => x - x / y * y)) := (m_27 8).trans rfl
theorem t_27_9 {Ls : Nat} {xs : Nat → Int32} : am_tbl Ls xs 27 9 = some (o_istore 6 2) := (m_27 9).trans rfl
theorem t_27_11 {Ls : Nat} {xs : Nat → Int32} : am_tbl Ls xs 27 11 = some (o_iload 1 1) := (m_27 11).trans rfl
theorem t_27_12 {Ls : Nat} {xs : Nat → Int32} : am_tbl Ls xs 27 12 = some (o_aload 0 1) := (m_27 12).trans rfl
theorem t_27_13 {Ls : Nat} {xs : Nat → Int32} : am_tbl Ls xs 27 13 = some (o_get 9 0) := (m_27 13).trans rfl
theorem t_27_16 {Ls : Nat} {xs : Nat → Int32} : am_tbl Ls xs 27 16 = some (o_idv (fun x y => x / y)) := (m_27 16).trans rfl
theorem t_27_17 {Ls : Nat} {xs : Nat → Int32} : am_tbl Ls xs 27 17 = some (o_istore 7 2) := (m_27 17).trans rfl
theorem t_27_19 {Ls : Nat} {xs : Nat → Int32} : am_tbl Ls xs 27 19 = some (o_push (.int 0) 1) := (m_27 19).trans rfl
theorem t_27_20 {Ls : Nat} {xs : Nat → Int32} : am_tbl Ls xs 27 20 = some (o_istore 8 2) := (m_27 20).trans rfl
theorem t_27_22 {Ls : Nat} {xs : Nat → Int32} : am_tbl Ls xs 27 22 = some (o_nrm [0, 2, 3, 4, 6, 7, 8] (o_iload 8 2)) := (m_27 22).trans rfl
theorem t_27_24 {Ls : Nat} {xs : Nat → Int32} : am_tbl Ls xs 27 24 = some (o_iload 2 1) := (m_27 24).trans rfl
theorem t_27_25 {Ls : Nat} {xs : Nat → Int32} : am_tbl Ls xs 27 25 = some (o_aload 0 1) := (m_27 25).trans rfl
theorem t_27_26 {Ls : Nat} {xs : Nat → Int32} : am_tbl Ls xs 27 26 = some (o_get 9 6) := (m_27 26).trans rfl
theorem t_27_29 {Ls : Nat} {xs : Nat → Int32} : am_tbl Ls xs 27 29 = some (o_iload 3 1) := (m_27 29).trans rfl
theorem t_27_30 {Ls : Nat} {xs : Nat → Int32} : am_tbl Ls xs 27 30 = some (o_iald 1) := (m_27 30).trans rfl
theorem t_27_31 {Ls : Nat} {xs : Nat → Int32} : am_tbl Ls xs 27 31 = some (o_ibin (fun x y => x * y)) := (m_27 31).trans rfl
theorem t_27_32 {Ls : Nat} {xs : Nat → Int32} : am_tbl Ls xs 27 32 = some (o_icmp (fun x y => decide (y ≤ x)) 112) := (m_27 32).trans rfl
theorem t_27_35 {Ls : Nat} {xs : Nat → Int32} : am_tbl Ls xs 27 35 = some (o_iload 6 2) := (m_27 35).trans rfl
theorem t_27_37 {Ls : Nat} {xs : Nat → Int32} : am_tbl Ls xs 27 37 = some (o_aload 0 1) := (m_27 37).trans rfl
theorem t_27_38 {Ls : Nat} {xs : Nat → Int32} : am_tbl Ls xs 27 38 = some (o_get 9 4) := (m_27 38).trans rfl
theorem t_27_41 {Ls : Nat} {xs : Nat → Int32} : am_tbl Ls xs 27 41 = some (o_iload 3 1) := (m_27 41).trans rfl
theorem t_27_42 {Ls : Nat} {xs : Nat → Int32} : am_tbl Ls xs 27 42 = some (o_iald 1) := (m_27 42).trans rfl
theorem t_27_43 {Ls : Nat} {xs : Nat → Int32} : am_tbl Ls xs 27 43 = some (o_ibin (fun x y => x + y)) := (m_27 43).trans rfl
theorem t_27_44 {Ls : Nat} {xs : Nat → Int32} : am_tbl Ls xs 27 44 = some (o_istore 6 2) := (m_27 44).trans rfl
theorem t_27_46 {Ls : Nat} {xs : Nat → Int32} : am_tbl Ls xs 27 46 = some (o_iload 7 2) := (m_27 46).trans rfl
theorem t_27_48 {Ls : Nat} {xs : Nat → Int32} : am_tbl Ls xs 27 48 = some (o_aload 0 1) := (m_27 48).trans rfl
theorem t_27_49 {Ls : Nat} {xs : Nat → Int32} : am_tbl Ls xs 27 49 = some (o_get 9 5) := (m_27 49).trans rfl
theorem t_27_52 {Ls : Nat} {xs : Nat → Int32} : am_tbl Ls xs 27 52 = some (o_iload 3 1) := (m_27 52).trans rfl
theorem t_27_53 {Ls : Nat} {xs : Nat → Int32} : am_tbl Ls xs 27 53 = some (o_iald 1) := (m_27 53).trans rfl
theorem t_27_54 {Ls : Nat} {xs : Nat → Int32} : am_tbl Ls xs 27 54 = some (o_ibin (fun x y => x + y)) := (m_27 54).trans rfl
theorem t_27_55 {Ls : Nat} {xs : Nat → Int32} : am_tbl Ls xs 27 55 = some (o_istore 7 2) := (m_27 55).trans rfl
theorem t_27_57 {Ls : Nat} {xs : Nat → Int32} : am_tbl Ls xs 27 57 = some (o_aload 0 1) := (m_27 57).trans rfl
theorem t_27_58 {Ls : Nat} {xs : Nat → Int32} : am_tbl Ls xs 27 58 = some (o_iload 6 2) := (m_27 58).trans rfl
theorem t_27_60 {Ls : Nat} {xs : Nat → Int32} : am_tbl Ls xs 27 60 = some (o_iload 7 2) := (m_27 60).trans rfl
theorem t_27_62 {Ls : Nat} {xs : Nat → Int32} : am_tbl Ls xs 27 62 = some (o_callv 4 2 9 3) := (m_27 62).trans rfl
theorem t_27_65 {Ls : Nat} {xs : Nat → Int32} : am_tbl Ls xs 27 65 = some (o_if (fun x => decide (x = 0)) 86) := (m_27 65).trans rfl
theorem t_27_68 {Ls : Nat} {xs : Nat → Int32} : am_tbl Ls xs 27 68 = some (o_aload 0 1) := (m_27 68).trans rfl
theorem t_27_69 {Ls : Nat} {xs : Nat → Int32} : am_tbl Ls xs 27 69 = some (o_get 9 2) := (m_27 69).trans rfl
theorem t_27_72 {Ls : Nat} {xs : Nat → Int32} : am_tbl Ls xs 27 72 = some (o_aload 0 1) := (m_27 72).trans rfl
theorem t_27_73 {Ls : Nat} {xs : Nat → Int32} : am_tbl Ls xs 27 73 = some (o_get 9 0) := (m_27 73).trans rfl
theorem t_27_76 {Ls : Nat} {xs : Nat → Int32} : am_tbl Ls xs 27 76 = some (o_iload 7 2) := (m_27 76).trans rfl
theorem t_27_78 {Ls : Nat} {xs : Nat → Int32} : am_tbl Ls xs 27 78 = some (o_ibin (fun x y => x * y)) := (m_27 78).trans rfl
theorem t_27_79 {Ls : Nat} {xs : Nat → Int32} : am_tbl Ls xs 27 79 = some (o_iload 6 2) := (m_27 79).trans rfl
theorem t_27_81 {Ls : Nat} {xs : Nat → Int32} : am_tbl Ls xs 27 81 = some (o_ibin (fun x y => x + y)) := (m_27 81).trans rfl
theorem t_27_82 {Ls : Nat} {xs : Nat → Int32} : am_tbl Ls xs 27 82 = some (o_iald 1) := (m_27 82).trans rfl
theorem t_27_83 {Ls : Nat} {xs : Nat → Int32} : am_tbl Ls xs 27 83 = some (o_if (fun x => decide (x ≤ 0)) 89) := (m_27 83).trans rfl
theorem t_27_86 {Ls : Nat} {xs : Nat → Int32} : am_tbl Ls xs 27 86 = some (o_nrm [4] (o_lload 4 2)) := (m_27 86).trans rfl
theorem t_27_88 {Ls : Nat} {xs : Nat → Int32} : am_tbl Ls xs 27 88 = some (o_lret) := (m_27 88).trans rfl
theorem t_27_89 {Ls : Nat} {xs : Nat → Int32} : am_tbl Ls xs 27 89 = some (o_lload 4 2) := (m_27 89).trans rfl
theorem t_27_91 {Ls : Nat} {xs : Nat → Int32} : am_tbl Ls xs 27 91 = some (o_push (.long 1) 1) := (m_27 91).trans rfl
theorem t_27_92 {Ls : Nat} {xs : Nat → Int32} : am_tbl Ls xs 27 92 = some (o_aload 0 1) := (m_27 92).trans rfl
theorem t_27_93 {Ls : Nat} {xs : Nat → Int32} : am_tbl Ls xs 27 93 = some (o_get 9 0) := (m_27 93).trans rfl
theorem t_27_96 {Ls : Nat} {xs : Nat → Int32} : am_tbl Ls xs 27 96 = some (o_iload 7 2) := (m_27 96).trans rfl
theorem t_27_98 {Ls : Nat} {xs : Nat → Int32} : am_tbl Ls xs 27 98 = some (o_ibin (fun x y => x * y)) := (m_27 98).trans rfl
theorem t_27_99 {Ls : Nat} {xs : Nat → Int32} : am_tbl Ls xs 27 99 = some (o_iload 6 2) := (m_27 99).trans rfl
theorem t_27_101 {Ls : Nat} {xs : Nat → Int32} : am_tbl Ls xs 27 101 = some (o_ibin (fun x y => x + y)) := (m_27 101).trans rfl
set_option maxRecDepth 20000 in
theorem t_27_102 {Ls : Nat} {xs : Nat → Int32} : am_tbl Ls xs 27 102 = some (o_lsh (fun x y => x <<< (y.toInt64 &&& 63))) := (m_27 102).trans rfl
set_option maxRecDepth 20000 in
theorem t_27_103 {Ls : Nat} {xs : Nat → Int32} : am_tbl Ls xs 27 103 = some (o_lbin (fun x y => x ||| y)) := (m_27 103).trans rfl
set_option maxRecDepth 20000 in
theorem t_27_104 {Ls : Nat} {xs : Nat → Int32} : am_tbl Ls xs 27 104 = some (o_lstore 4 2) := (m_27 104).trans rfl
set_option maxRecDepth 20000 in
theorem t_27_106 {Ls : Nat} {xs : Nat → Int32} : am_tbl Ls xs 27 106 = some (o_iinc 8 1) := (m_27 106).trans rfl
set_option maxRecDepth 20000 in
theorem t_27_109 {Ls : Nat} {xs : Nat → Int32} : am_tbl Ls xs 27 109 = some (o_goto 22) := (m_27 109).trans rfl
set_option maxRecDepth 20000 in
theorem t_27_112 {Ls : Nat} {xs : Nat → Int32} : am_tbl Ls xs 27 112 = some (o_lload 4 2) := (m_27 112).trans rfl
set_option maxRecDepth 20000 in
theorem t_27_114 {Ls : Nat} {xs : Nat → Int32} : am_tbl Ls xs 27 114 = some (o_lret) := (m_27 114).trans rfl
theorem m_28 {Ls : Nat} {xs : Nat → Int32} (pc : Nat) : am_tbl Ls xs 28 pc = am_lk (op_X9_darkAt) pc := rfl
theorem t_28_0 {Ls : Nat} {xs : Nat → Int32} : am_tbl Ls xs 28 0 = some (o_push (.long 0) 1) := (m_28 0).trans rfl
theorem t_28_1 {Ls : Nat} {xs : Nat → Int32} : am_tbl Ls xs 28 1 = some (o_lstore 2 1) := (m_28 1).trans rfl
theorem t_28_2 {Ls : Nat} {xs : Nat → Int32} : am_tbl Ls xs 28 2 = some (o_push (.int 0) 1) := (m_28 2).trans rfl
theorem t_28_3 {Ls : Nat} {xs : Nat → Int32} : am_tbl Ls xs 28 3 = some (o_istore 4 2) := (m_28 3).trans rfl
theorem t_28_5 {Ls : Nat} {xs : Nat → Int32} : am_tbl Ls xs 28 5 = some (o_nrm [0, 1, 2, 4] (o_iload 4 2)) := (m_28 5).trans rfl
theorem t_28_7 {Ls : Nat} {xs : Nat → Int32} : am_tbl Ls xs 28 7 = some (o_aload 0 1) := (m_28 7).trans rfl
theorem t_28_8 {Ls : Nat} {xs : Nat → Int32} : am_tbl Ls xs 28 8 = some (o_callv 7 0 9 1) := (m_28 8).trans rfl
theorem t_28_11 {Ls : Nat} {xs : Nat → Int32} : am_tbl Ls xs 28 11 = some (o_icmp (fun x y => decide (y ≤ x)) 51) := (m_28 11).trans rfl
theorem t_28_14 {Ls : Nat} {xs : Nat → Int32} : am_tbl Ls xs 28 14 = some (o_lload 2 1) := (m_28 14).trans rfl
theorem t_28_15 {Ls : Nat} {xs : Nat → Int32} : am_tbl Ls xs 28 15 = some (o_aload 0 1) := (m_28 15).trans rfl
theorem t_28_16 {Ls : Nat} {xs : Nat → Int32} : am_tbl Ls xs 28 16 = some (o_get 9 2) := (m_28 16).trans rfl
theorem t_28_19 {Ls : Nat} {xs : Nat → Int32} : am_tbl Ls xs 28 19 = some (o_iload 4 2) := (m_28 19).trans rfl
theorem t_28_21 {Ls : Nat} {xs : Nat → Int32} : am_tbl Ls xs 28 21 = some (o_iald 1) := (m_28 21).trans rfl
theorem t_28_22 {Ls : Nat} {xs : Nat → Int32} : am_tbl Ls xs 28 22 = some (o_if (fun x => decide (x ≤ 0)) 42) := (m_28 22).trans rfl
theorem t_28_25 {Ls : Nat} {xs : Nat → Int32} : am_tbl Ls xs 28 25 = some (o_aload 0 1) := (m_28 25).trans rfl
theorem t_28_26 {Ls : Nat} {xs : Nat → Int32} : am_tbl Ls xs 28 26 = some (o_iload 4 2) := (m_28 26).trans rfl
theorem t_28_28 {Ls : Nat} {xs : Nat → Int32} : am_tbl Ls xs 28 28 = some (o_aload 0 1) := (m_28 28).trans rfl
theorem t_28_29 {Ls : Nat} {xs : Nat → Int32} : am_tbl Ls xs 28 29 = some (o_get 9 2) := (m_28 29).trans rfl
theorem t_28_32 {Ls : Nat} {xs : Nat → Int32} : am_tbl Ls xs 28 32 = some (o_iload 4 2) := (m_28 32).trans rfl
theorem t_28_34 {Ls : Nat} {xs : Nat → Int32} : am_tbl Ls xs 28 34 = some (o_iald 1) := (m_28 34).trans rfl
theorem t_28_35 {Ls : Nat} {xs : Nat → Int32} : am_tbl Ls xs 28 35 = some (o_iload 1 1) := (m_28 35).trans rfl
theorem t_28_36 {Ls : Nat} {xs : Nat → Int32} : am_tbl Ls xs 28 36 = some (o_callv 27 3 9 9) := (m_28 36).trans rfl
theorem t_28_39 {Ls : Nat} {xs : Nat → Int32} : am_tbl Ls xs 28 39 = some (o_goto 43) := (m_28 39).trans rfl
theorem t_28_42 {Ls : Nat} {xs : Nat → Int32} : am_tbl Ls xs 28 42 = some (o_push (.long 0) 1) := (m_28 42).trans rfl
theorem t_28_43 {Ls : Nat} {xs : Nat → Int32} : am_tbl Ls xs 28 43 = some (o_nrm [0, 1, 4] (o_lbin (fun x y => x ||| y))) := (m_28 43).trans rfl
theorem t_28_44 {Ls : Nat} {xs : Nat → Int32} : am_tbl Ls xs 28 44 = some (o_lstore 2 1) := (m_28 44).trans rfl
theorem t_28_45 {Ls : Nat} {xs : Nat → Int32} : am_tbl Ls xs 28 45 = some (o_iinc 4 1) := (m_28 45).trans rfl
theorem t_28_48 {Ls : Nat} {xs : Nat → Int32} : am_tbl Ls xs 28 48 = some (o_goto 5) := (m_28 48).trans rfl
theorem t_28_51 {Ls : Nat} {xs : Nat → Int32} : am_tbl Ls xs 28 51 = some (o_lload 2 1) := (m_28 51).trans rfl
theorem t_28_52 {Ls : Nat} {xs : Nat → Int32} : am_tbl Ls xs 28 52 = some (o_lret) := (m_28 52).trans rfl
theorem m_29 {Ls : Nat} {xs : Nat → Int32} (pc : Nat) : am_tbl Ls xs 29 pc = am_lk (op_X9_tallOf) pc := rfl
theorem t_29_0 {Ls : Nat} {xs : Nat → Int32} : am_tbl Ls xs 29 0 = some (o_iload 1 1) := (m_29 0).trans rfl
theorem t_29_1 {Ls : Nat} {xs : Nat → Int32} : am_tbl Ls xs 29 1 = some (o_aload 0 1) := (m_29 1).trans rfl
theorem t_29_2 {Ls : Nat} {xs : Nat → Int32} : am_tbl Ls xs 29 2 = some (o_get 9 40) := (m_29 2).trans rfl
theorem t_29_5 {Ls : Nat} {xs : Nat → Int32} : am_tbl Ls xs 29 5 = some (o_icmp (fun x y => decide (x ≠ y)) 15) := (m_29 5).trans rfl
theorem t_29_8 {Ls : Nat} {xs : Nat → Int32} : am_tbl Ls xs 29 8 = some (o_aload 0 1) := (m_29 8).trans rfl
theorem t_29_9 {Ls : Nat} {xs : Nat → Int32} : am_tbl Ls xs 29 9 = some (o_get 9 41) := (m_29 9).trans rfl
theorem t_29_12 {Ls : Nat} {xs : Nat → Int32} : am_tbl Ls xs 29 12 = some (o_goto 41) := (m_29 12).trans rfl
theorem t_29_15 {Ls : Nat} {xs : Nat → Int32} : am_tbl Ls xs 29 15 = some (o_aload 0 1) := (m_29 15).trans rfl
theorem t_29_16 {Ls : Nat} {xs : Nat → Int32} : am_tbl Ls xs 29 16 = some (o_get 9 11) := (m_29 16).trans rfl
theorem t_29_19 {Ls : Nat} {xs : Nat → Int32} : am_tbl Ls xs 29 19 = some (o_iload 1 1) := (m_29 19).trans rfl
theorem t_29_20 {Ls : Nat} {xs : Nat → Int32} : am_tbl Ls xs 29 20 = some (o_iald 3) := (m_29 20).trans rfl
theorem t_29_21 {Ls : Nat} {xs : Nat → Int32} : am_tbl Ls xs 29 21 = some (o_if (fun x => decide (x = 0)) 35) := (m_29 21).trans rfl
theorem t_29_24 {Ls : Nat} {xs : Nat → Int32} : am_tbl Ls xs 29 24 = some (o_aload 0 1) := (m_29 24).trans rfl
theorem t_29_25 {Ls : Nat} {xs : Nat → Int32} : am_tbl Ls xs 29 25 = some (o_get 9 10) := (m_29 25).trans rfl
theorem t_29_28 {Ls : Nat} {xs : Nat → Int32} : am_tbl Ls xs 29 28 = some (o_iload 1 1) := (m_29 28).trans rfl
theorem t_29_29 {Ls : Nat} {xs : Nat → Int32} : am_tbl Ls xs 29 29 = some (o_iald 1) := (m_29 29).trans rfl
theorem t_29_30 {Ls : Nat} {xs : Nat → Int32} : am_tbl Ls xs 29 30 = some (o_push (.int 1) 1) := (m_29 30).trans rfl
theorem t_29_31 {Ls : Nat} {xs : Nat → Int32} : am_tbl Ls xs 29 31 = some (o_ibin (fun x y => x - y)) := (m_29 31).trans rfl
theorem t_29_32 {Ls : Nat} {xs : Nat → Int32} : am_tbl Ls xs 29 32 = some (o_goto 41) := (m_29 32).trans rfl
theorem t_29_35 {Ls : Nat} {xs : Nat → Int32} : am_tbl Ls xs 29 35 = some (o_aload 0 1) := (m_29 35).trans rfl
theorem t_29_36 {Ls : Nat} {xs : Nat → Int32} : am_tbl Ls xs 29 36 = some (o_get 9 10) := (m_29 36).trans rfl
theorem t_29_39 {Ls : Nat} {xs : Nat → Int32} : am_tbl Ls xs 29 39 = some (o_iload 1 1) := (m_29 39).trans rfl
theorem t_29_40 {Ls : Nat} {xs : Nat → Int32} : am_tbl Ls xs 29 40 = some (o_iald 1) := (m_29 40).trans rfl
theorem t_29_41 {Ls : Nat} {xs : Nat → Int32} : am_tbl Ls xs 29 41 = some (o_nrm [] (o_iret)) := (m_29 41).trans rfl
theorem m_30 {Ls : Nat} {xs : Nat → Int32} (pc : Nat) : am_tbl Ls xs 30 pc = am_lk (op_X9_castBy) pc := rfl
theorem t_30_0 {Ls : Nat} {xs : Nat → Int32} : am_tbl Ls xs 30 0 = some (o_iload 1 1) := (m_30 0).trans rfl
theorem t_30_1 {Ls : Nat} {xs : Nat → Int32} : am_tbl Ls xs 30 1 = some (o_aload 0 1) := (m_30 1).trans rfl
theorem t_30_2 {Ls : Nat} {xs : Nat → Int32} : am_tbl Ls xs 30 2 = some (o_get 9 39) := (m_30 2).trans rfl
theorem t_30_5 {Ls : Nat} {xs : Nat → Int32} : am_tbl Ls xs 30 5 = some (o_icmp (fun x y => decide (x = y)) 21) := (m_30 5).trans rfl
theorem t_30_8 {Ls : Nat} {xs : Nat → Int32} : am_tbl Ls xs 30 8 = some (o_lload 3 1) := (m_30 8).trans rfl
theorem t_30_9 {Ls : Nat} {xs : Nat → Int32} : am_tbl Ls xs 30 9 = some (o_aload 0 1) := (m_30 9).trans rfl
theorem t_30_10 {Ls : Nat} {xs : Nat → Int32} : am_tbl Ls xs 30 10 = some (o_get 9 9) := (m_30 10).trans rfl
theorem t_30_13 {Ls : Nat} {xs : Nat → Int32} : am_tbl Ls xs 30 13 = some (o_iload 1 1) := (m_30 13).trans rfl
theorem t_30_14 {Ls : Nat} {xs : Nat → Int32} : am_tbl Ls xs 30 14 = some (o_iald 1) := (m_30 14).trans rfl
theorem t_30_15 {Ls : Nat} {xs : Nat → Int32} : am_tbl Ls xs 30 15 = some (o_calls 2 2 3) := (m_30 15).trans rfl
theorem t_30_18 {Ls : Nat} {xs : Nat → Int32} : am_tbl Ls xs 30 18 = some (o_if (fun x => decide (x = 0)) 25) := (m_30 18).trans rfl
theorem t_30_21 {Ls : Nat} {xs : Nat → Int32} : am_tbl Ls xs 30 21 = some (o_nrm [] (o_push (.long 0) 1)) := (m_30 21).trans rfl
theorem t_30_22 {Ls : Nat} {xs : Nat → Int32} : am_tbl Ls xs 30 22 = some (o_goto 41) := (m_30 22).trans rfl
theorem t_30_25 {Ls : Nat} {xs : Nat → Int32} : am_tbl Ls xs 30 25 = some (o_aload 0 1) := (m_30 25).trans rfl
theorem t_30_26 {Ls : Nat} {xs : Nat → Int32} : am_tbl Ls xs 30 26 = some (o_aload 0 1) := (m_30 26).trans rfl
theorem t_30_27 {Ls : Nat} {xs : Nat → Int32} : am_tbl Ls xs 30 27 = some (o_get 9 9) := (m_30 27).trans rfl
theorem t_30_30 {Ls : Nat} {xs : Nat → Int32} : am_tbl Ls xs 30 30 = some (o_iload 1 1) := (m_30 30).trans rfl
theorem t_30_31 {Ls : Nat} {xs : Nat → Int32} : am_tbl Ls xs 30 31 = some (o_iald 1) := (m_30 31).trans rfl
theorem t_30_32 {Ls : Nat} {xs : Nat → Int32} : am_tbl Ls xs 30 32 = some (o_aload 0 1) := (m_30 32).trans rfl
theorem t_30_33 {Ls : Nat} {xs : Nat → Int32} : am_tbl Ls xs 30 33 = some (o_iload 1 1) := (m_30 33).trans rfl
theorem t_30_34 {Ls : Nat} {xs : Nat → Int32} : am_tbl Ls xs 30 34 = some (o_callv 29 1 9 2) := (m_30 34).trans rfl
theorem t_30_37 {Ls : Nat} {xs : Nat → Int32} : am_tbl Ls xs 30 37 = some (o_iload 2 1) := (m_30 37).trans rfl
theorem t_30_38 {Ls : Nat} {xs : Nat → Int32} : am_tbl Ls xs 30 38 = some (o_callv 27 3 9 9) := (m_30 38).trans rfl
theorem t_30_41 {Ls : Nat} {xs : Nat → Int32} : am_tbl Ls xs 30 41 = some (o_nrm [] (o_lret)) := (m_30 41).trans rfl
theorem m_31 {Ls : Nat} {xs : Nat → Int32} (pc : Nat) : am_tbl Ls xs 31 pc = am_lk (op_X9_paysAhead) pc := rfl
theorem t_31_0 {Ls : Nat} {xs : Nat → Int32} : am_tbl Ls xs 31 0 = some (o_aload 0 1) := (m_31 0).trans rfl
theorem t_31_1 {Ls : Nat} {xs : Nat → Int32} : am_tbl Ls xs 31 1 = some (o_get 9 15) := (m_31 1).trans rfl
theorem t_31_4 {Ls : Nat} {xs : Nat → Int32} : am_tbl Ls xs 31 4 = some (o_push (.int 1) 1) := (m_31 4).trans rfl
theorem t_31_5 {Ls : Nat} {xs : Nat → Int32} : am_tbl Ls xs 31 5 = some (o_icmp (fun x y => decide (x ≠ y)) 40) := (m_31 5).trans rfl
theorem t_31_8 {Ls : Nat} {xs : Nat → Int32} : am_tbl Ls xs 31 8 = some (o_aload 0 1) := (m_31 8).trans rfl
theorem t_31_9 {Ls : Nat} {xs : Nat → Int32} : am_tbl Ls xs 31 9 = some (o_iload 1 1) := (m_31 9).trans rfl
theorem t_31_10 {Ls : Nat} {xs : Nat → Int32} : am_tbl Ls xs 31 10 = some (o_callv 29 1 9 2) := (m_31 10).trans rfl
theorem t_31_13 {Ls : Nat} {xs : Nat → Int32} : am_tbl Ls xs 31 13 = some (o_aload 0 1) := (m_31 13).trans rfl
theorem t_31_14 {Ls : Nat} {xs : Nat → Int32} : am_tbl Ls xs 31 14 = some (o_iload 2 1) := (m_31 14).trans rfl
theorem t_31_15 {Ls : Nat} {xs : Nat → Int32} : am_tbl Ls xs 31 15 = some (o_callv 29 1 9 2) := (m_31 15).trans rfl
theorem t_31_18 {Ls : Nat} {xs : Nat → Int32} : am_tbl Ls xs 31 18 = some (o_icmp (fun x y => decide (x = y)) 40) := (m_31 18).trans rfl
theorem t_31_21 {Ls : Nat} {xs : Nat → Int32} : am_tbl Ls xs 31 21 = some (o_aload 0 1) := (m_31 21).trans rfl
theorem t_31_22 {Ls : Nat} {xs : Nat → Int32} : am_tbl Ls xs 31 22 = some (o_iload 1 1) := (m_31 22).trans rfl
theorem t_31_23 {Ls : Nat} {xs : Nat → Int32} : am_tbl Ls xs 31 23 = some (o_callv 29 1 9 2) := (m_31 23).trans rfl
theorem t_31_26 {Ls : Nat} {xs : Nat → Int32} : am_tbl Ls xs 31 26 = some (o_aload 0 1) := (m_31 26).trans rfl
theorem t_31_27 {Ls : Nat} {xs : Nat → Int32} : am_tbl Ls xs 31 27 = some (o_iload 2 1) := (m_31 27).trans rfl
theorem t_31_28 {Ls : Nat} {xs : Nat → Int32} : am_tbl Ls xs 31 28 = some (o_callv 29 1 9 2) := (m_31 28).trans rfl
theorem t_31_31 {Ls : Nat} {xs : Nat → Int32} : am_tbl Ls xs 31 31 = some (o_icmp (fun x y => decide (x ≤ y)) 38) := (m_31 31).trans rfl
theorem t_31_34 {Ls : Nat} {xs : Nat → Int32} : am_tbl Ls xs 31 34 = some (o_push (.int 1) 1) := (m_31 34).trans rfl
theorem t_31_35 {Ls : Nat} {xs : Nat → Int32} : am_tbl Ls xs 31 35 = some (o_goto 39) := (m_31 35).trans rfl
theorem t_31_38 {Ls : Nat} {xs : Nat → Int32} : am_tbl Ls xs 31 38 = some (o_push (.int 0) 1) := (m_31 38).trans rfl
theorem t_31_39 {Ls : Nat} {xs : Nat → Int32} : am_tbl Ls xs 31 39 = some (o_nrm [] (o_zret)) := (m_31 39).trans rfl
theorem t_31_40 {Ls : Nat} {xs : Nat → Int32} : am_tbl Ls xs 31 40 = some (o_nrm [1, 2] (o_iload 1 1)) := (m_31 40).trans rfl
theorem t_31_41 {Ls : Nat} {xs : Nat → Int32} : am_tbl Ls xs 31 41 = some (o_iload 2 1) := (m_31 41).trans rfl
theorem t_31_42 {Ls : Nat} {xs : Nat → Int32} : am_tbl Ls xs 31 42 = some (o_icmp (fun x y => decide (y ≤ x)) 49) := (m_31 42).trans rfl
theorem t_31_45 {Ls : Nat} {xs : Nat → Int32} : am_tbl Ls xs 31 45 = some (o_push (.int 1) 1) := (m_31 45).trans rfl
theorem t_31_46 {Ls : Nat} {xs : Nat → Int32} : am_tbl Ls xs 31 46 = some (o_goto 50) := (m_31 46).trans rfl
theorem t_31_49 {Ls : Nat} {xs : Nat → Int32} : am_tbl Ls xs 31 49 = some (o_push (.int 0) 1) := (m_31 49).trans rfl
theorem t_31_50 {Ls : Nat} {xs : Nat → Int32} : am_tbl Ls xs 31 50 = some (o_nrm [] (o_zret)) := (m_31 50).trans rfl
theorem m_32 {Ls : Nat} {xs : Nat → Int32} (pc : Nat) : am_tbl Ls xs 32 pc = am_lk (op_X9_owedAt) pc := rfl
theorem t_32_0 {Ls : Nat} {xs : Nat → Int32} : am_tbl Ls xs 32 0 = some (o_aload 0 1) := (m_32 0).trans rfl
theorem t_32_1 {Ls : Nat} {xs : Nat → Int32} : am_tbl Ls xs 32 1 = some (o_iload 2 1) := (m_32 1).trans rfl
theorem t_32_2 {Ls : Nat} {xs : Nat → Int32} : am_tbl Ls xs 32 2 = some (o_callv 28 1 9 5) := (m_32 2).trans rfl
theorem t_32_5 {Ls : Nat} {xs : Nat → Int32} : am_tbl Ls xs 32 5 = some (o_lstore 3 1) := (m_32 5).trans rfl
theorem t_32_6 {Ls : Nat} {xs : Nat → Int32} : am_tbl Ls xs 32 6 = some (o_aload 0 1) := (m_32 6).trans rfl
theorem t_32_7 {Ls : Nat} {xs : Nat → Int32} : am_tbl Ls xs 32 7 = some (o_iload 1 1) := (m_32 7).trans rfl
theorem t_32_8 {Ls : Nat} {xs : Nat → Int32} : am_tbl Ls xs 32 8 = some (o_iload 2 1) := (m_32 8).trans rfl
theorem t_32_9 {Ls : Nat} {xs : Nat → Int32} : am_tbl Ls xs 32 9 = some (o_lload 3 1) := (m_32 9).trans rfl
theorem t_32_10 {Ls : Nat} {xs : Nat → Int32} : am_tbl Ls xs 32 10 = some (o_callv 30 3 9 5) := (m_32 10).trans rfl
theorem t_32_13 {Ls : Nat} {xs : Nat → Int32} : am_tbl Ls xs 32 13 = some (o_lload 3 1) := (m_32 13).trans rfl
theorem t_32_14 {Ls : Nat} {xs : Nat → Int32} : am_tbl Ls xs 32 14 = some (o_push (.long (-1)) 3) := (m_32 14).trans rfl
theorem t_32_17 {Ls : Nat} {xs : Nat → Int32} : am_tbl Ls xs 32 17 = some (o_lbin (fun x y => x ^^^ y)) := (m_32 17).trans rfl
theorem t_32_18 {Ls : Nat} {xs : Nat → Int32} : am_tbl Ls xs 32 18 = some (o_lbin (fun x y => x &&& y)) := (m_32 18).trans rfl
theorem t_32_19 {Ls : Nat} {xs : Nat → Int32} : am_tbl Ls xs 32 19 = some (o_lstore 5 2) := (m_32 19).trans rfl
theorem t_32_21 {Ls : Nat} {xs : Nat → Int32} : am_tbl Ls xs 32 21 = some (o_push (.int 0) 1) := (m_32 21).trans rfl
theorem t_32_22 {Ls : Nat} {xs : Nat → Int32} : am_tbl Ls xs 32 22 = some (o_istore 7 2) := (m_32 22).trans rfl
theorem t_32_24 {Ls : Nat} {xs : Nat → Int32} : am_tbl Ls xs 32 24 = some (o_nrm [0, 1, 2, 3, 5, 7] (o_iload 7 2)) := (m_32 24).trans rfl
theorem t_32_26 {Ls : Nat} {xs : Nat → Int32} : am_tbl Ls xs 32 26 = some (o_aload 0 1) := (m_32 26).trans rfl
theorem t_32_27 {Ls : Nat} {xs : Nat → Int32} : am_tbl Ls xs 32 27 = some (o_get 9 8) := (m_32 27).trans rfl
theorem t_32_30 {Ls : Nat} {xs : Nat → Int32} : am_tbl Ls xs 32 30 = some (o_icmp (fun x y => decide (y ≤ x)) 78) := (m_32 30).trans rfl
theorem t_32_33 {Ls : Nat} {xs : Nat → Int32} : am_tbl Ls xs 32 33 = some (o_lload 5 2) := (m_32 33).trans rfl
theorem t_32_35 {Ls : Nat} {xs : Nat → Int32} : am_tbl Ls xs 32 35 = some (o_iload 7 2) := (m_32 35).trans rfl
theorem t_32_37 {Ls : Nat} {xs : Nat → Int32} : am_tbl Ls xs 32 37 = some (o_iload 1 1) := (m_32 37).trans rfl
theorem t_32_38 {Ls : Nat} {xs : Nat → Int32} : am_tbl Ls xs 32 38 = some (o_icmp (fun x y => decide (x = y)) 66) := (m_32 38).trans rfl
theorem t_32_41 {Ls : Nat} {xs : Nat → Int32} : am_tbl Ls xs 32 41 = some (o_aload 0 1) := (m_32 41).trans rfl
theorem t_32_42 {Ls : Nat} {xs : Nat → Int32} : am_tbl Ls xs 32 42 = some (o_iload 7 2) := (m_32 42).trans rfl
theorem t_32_44 {Ls : Nat} {xs : Nat → Int32} : am_tbl Ls xs 32 44 = some (o_iload 1 1) := (m_32 44).trans rfl
theorem t_32_45 {Ls : Nat} {xs : Nat → Int32} : am_tbl Ls xs 32 45 = some (o_callv 31 2 9 3) := (m_32 45).trans rfl
theorem t_32_48 {Ls : Nat} {xs : Nat → Int32} : am_tbl Ls xs 32 48 = some (o_if (fun x => decide (x = 0)) 66) := (m_32 48).trans rfl
theorem t_32_51 {Ls : Nat} {xs : Nat → Int32} : am_tbl Ls xs 32 51 = some (o_aload 0 1) := (m_32 51).trans rfl
theorem t_32_52 {Ls : Nat} {xs : Nat → Int32} : am_tbl Ls xs 32 52 = some (o_iload 7 2) := (m_32 52).trans rfl
theorem t_32_54 {Ls : Nat} {xs : Nat → Int32} : am_tbl Ls xs 32 54 = some (o_iload 2 1) := (m_32 54).trans rfl
theorem t_32_55 {Ls : Nat} {xs : Nat → Int32} : am_tbl Ls xs 32 55 = some (o_lload 3 1) := (m_32 55).trans rfl
theorem t_32_56 {Ls : Nat} {xs : Nat → Int32} : am_tbl Ls xs 32 56 = some (o_callv 30 3 9 5) := (m_32 56).trans rfl
theorem t_32_59 {Ls : Nat} {xs : Nat → Int32} : am_tbl Ls xs 32 59 = some (o_push (.long (-1)) 3) := (m_32 59).trans rfl
theorem t_32_62 {Ls : Nat} {xs : Nat → Int32} : am_tbl Ls xs 32 62 = some (o_lbin (fun x y => x ^^^ y)) := (m_32 62).trans rfl
theorem t_32_63 {Ls : Nat} {xs : Nat → Int32} : am_tbl Ls xs 32 63 = some (o_goto 69) := (m_32 63).trans rfl
theorem t_32_66 {Ls : Nat} {xs : Nat → Int32} : am_tbl Ls xs 32 66 = some (o_nrm [0, 1, 2, 3, 7] (o_push (.long (-1)) 3)) := (m_32 66).trans rfl
theorem t_32_69 {Ls : Nat} {xs : Nat → Int32} : am_tbl Ls xs 32 69 = some (o_nrm [0, 1, 2, 3, 7] (o_lbin (fun x y => x &&& y))) := (m_32 69).trans rfl
theorem t_32_70 {Ls : Nat} {xs : Nat → Int32} : am_tbl Ls xs 32 70 = some (o_lstore 5 2) := (m_32 70).trans rfl
theorem t_32_72 {Ls : Nat} {xs : Nat → Int32} : am_tbl Ls xs 32 72 = some (o_iinc 7 1) := (m_32 72).trans rfl
theorem t_32_75 {Ls : Nat} {xs : Nat → Int32} : am_tbl Ls xs 32 75 = some (o_goto 24) := (m_32 75).trans rfl
theorem t_32_78 {Ls : Nat} {xs : Nat → Int32} : am_tbl Ls xs 32 78 = some (o_lload 5 2) := (m_32 78).trans rfl
theorem t_32_80 {Ls : Nat} {xs : Nat → Int32} : am_tbl Ls xs 32 80 = some (o_calls 3 1 4) := (m_32 80).trans rfl
theorem t_32_83 {Ls : Nat} {xs : Nat → Int32} : am_tbl Ls xs 32 83 = some (o_iret) := (m_32 83).trans rfl
theorem m_33 {Ls : Nat} {xs : Nat → Int32} (pc : Nat) : am_tbl Ls xs 33 pc = am_lk (op_X9_meanOf) pc := rfl
theorem t_33_0 {Ls : Nat} {xs : Nat → Int32} : am_tbl Ls xs 33 0 = some (o_push (.int 0) 1) := (m_33 0).trans rfl
theorem t_33_1 {Ls : Nat} {xs : Nat → Int32} : am_tbl Ls xs 33 1 = some (o_istore 2 1) := (m_33 1).trans rfl
theorem t_33_2 {Ls : Nat} {xs : Nat → Int32} : am_tbl Ls xs 33 2 = some (o_push (.int 0) 1) := (m_33 2).trans rfl
theorem t_33_3 {Ls : Nat} {xs : Nat → Int32} : am_tbl Ls xs 33 3 = some (o_istore 3 1) := (m_33 3).trans rfl
theorem t_33_4 {Ls : Nat} {xs : Nat → Int32} : am_tbl Ls xs 33 4 = some (o_nrm [0, 1, 2, 3] (o_iload 3 1)) := (m_33 4).trans rfl
theorem t_33_5 {Ls : Nat} {xs : Nat → Int32} : am_tbl Ls xs 33 5 = some (o_aload 0 1) := (m_33 5).trans rfl
theorem t_33_6 {Ls : Nat} {xs : Nat → Int32} : am_tbl Ls xs 33 6 = some (o_get 9 3) := (m_33 6).trans rfl
theorem t_33_9 {Ls : Nat} {xs : Nat → Int32} : am_tbl Ls xs 33 9 = some (o_icmp (fun x y => decide (y ≤ x)) 47) := (m_33 9).trans rfl
theorem t_33_12 {Ls : Nat} {xs : Nat → Int32} : am_tbl Ls xs 33 12 = some (o_iload 2 1) := (m_33 12).trans rfl
theorem t_33_13 {Ls : Nat} {xs : Nat → Int32} : am_tbl Ls xs 33 13 = some (o_aload 0 1) := (m_33 13).trans rfl
theorem t_33_14 {Ls : Nat} {xs : Nat → Int32} : am_tbl Ls xs 33 14 = some (o_get 9 7) := (m_33 14).trans rfl
theorem t_33_17 {Ls : Nat} {xs : Nat → Int32} : am_tbl Ls xs 33 17 = some (o_iload 3 1) := (m_33 17).trans rfl
theorem t_33_18 {Ls : Nat} {xs : Nat → Int32} : am_tbl Ls xs 33 18 = some (o_iald 1) := (m_33 18).trans rfl
theorem t_33_19 {Ls : Nat} {xs : Nat → Int32} : am_tbl Ls xs 33 19 = some (o_if (fun x => decide (x ≠ 0)) 26) := (m_33 19).trans rfl
theorem t_33_22 {Ls : Nat} {xs : Nat → Int32} : am_tbl Ls xs 33 22 = some (o_push (.int 0) 1) := (m_33 22).trans rfl
theorem t_33_23 {Ls : Nat} {xs : Nat → Int32} : am_tbl Ls xs 33 23 = some (o_goto 39) := (m_33 23).trans rfl
theorem t_33_26 {Ls : Nat} {xs : Nat → Int32} : am_tbl Ls xs 33 26 = some (o_aload 0 1) := (m_33 26).trans rfl
theorem t_33_27 {Ls : Nat} {xs : Nat → Int32} : am_tbl Ls xs 33 27 = some (o_iload 1 1) := (m_33 27).trans rfl
theorem t_33_28 {Ls : Nat} {xs : Nat → Int32} : am_tbl Ls xs 33 28 = some (o_iload 3 1) := (m_33 28).trans rfl
theorem t_33_29 {Ls : Nat} {xs : Nat → Int32} : am_tbl Ls xs 33 29 = some (o_callv 32 2 9 8) := (m_33 29).trans rfl
theorem t_33_32 {Ls : Nat} {xs : Nat → Int32} : am_tbl Ls xs 33 32 = some (o_aload 0 1) := (m_33 32).trans rfl
theorem t_33_33 {Ls : Nat} {xs : Nat → Int32} : am_tbl Ls xs 33 33 = some (o_get 9 7) := (m_33 33).trans rfl
theorem t_33_36 {Ls : Nat} {xs : Nat → Int32} : am_tbl Ls xs 33 36 = some (o_iload 3 1) := (m_33 36).trans rfl
theorem t_33_37 {Ls : Nat} {xs : Nat → Int32} : am_tbl Ls xs 33 37 = some (o_iald 1) := (m_33 37).trans rfl
theorem t_33_38 {Ls : Nat} {xs : Nat → Int32} : am_tbl Ls xs 33 38 = some (o_ibin (fun x y => x * y)) := (m_33 38).trans rfl
theorem t_33_39 {Ls : Nat} {xs : Nat → Int32} : am_tbl Ls xs 33 39 = some (o_nrm [0, 1, 3] (o_ibin (fun x y => x + y))) := (m_33 39).trans rfl
theorem t_33_40 {Ls : Nat} {xs : Nat → Int32} : am_tbl Ls xs 33 40 = some (o_istore 2 1) := (m_33 40).trans rfl
theorem t_33_41 {Ls : Nat} {xs : Nat → Int32} : am_tbl Ls xs 33 41 = some (o_iinc 3 1) := (m_33 41).trans rfl
theorem t_33_44 {Ls : Nat} {xs : Nat → Int32} : am_tbl Ls xs 33 44 = some (o_goto 4) := (m_33 44).trans rfl
theorem t_33_47 {Ls : Nat} {xs : Nat → Int32} : am_tbl Ls xs 33 47 = some (o_iload 2 1) := (m_33 47).trans rfl
theorem t_33_48 {Ls : Nat} {xs : Nat → Int32} : am_tbl Ls xs 33 48 = some (o_iret) := (m_33 48).trans rfl
theorem m_34 {Ls : Nat} {xs : Nat → Int32} (pc : Nat) : am_tbl Ls xs 34 pc = am_lk (op_X9_worstOf) pc := rfl
theorem t_34_0 {Ls : Nat} {xs : Nat → Int32} : am_tbl Ls xs 34 0 = some (o_push (.int 0) 1) := (m_34 0).trans rfl
theorem t_34_1 {Ls : Nat} {xs : Nat → Int32} : am_tbl Ls xs 34 1 = some (o_istore 2 1) := (m_34 1).trans rfl
theorem t_34_2 {Ls : Nat} {xs : Nat → Int32} : am_tbl Ls xs 34 2 = some (o_push (.int 0) 1) := (m_34 2).trans rfl
theorem t_34_3 {Ls : Nat} {xs : Nat → Int32} : am_tbl Ls xs 34 3 = some (o_istore 3 1) := (m_34 3).trans rfl
theorem t_34_4 {Ls : Nat} {xs : Nat → Int32} : am_tbl Ls xs 34 4 = some (o_nrm [0, 1, 2, 3] (o_iload 3 1)) := (m_34 4).trans rfl
theorem t_34_5 {Ls : Nat} {xs : Nat → Int32} : am_tbl Ls xs 34 5 = some (o_aload 0 1) := (m_34 5).trans rfl
theorem t_34_6 {Ls : Nat} {xs : Nat → Int32} : am_tbl Ls xs 34 6 = some (o_get 9 3) := (m_34 6).trans rfl
theorem t_34_9 {Ls : Nat} {xs : Nat → Int32} : am_tbl Ls xs 34 9 = some (o_icmp (fun x y => decide (y ≤ x)) 52) := (m_34 9).trans rfl
theorem t_34_12 {Ls : Nat} {xs : Nat → Int32} : am_tbl Ls xs 34 12 = some (o_aload 0 1) := (m_34 12).trans rfl
theorem t_34_13 {Ls : Nat} {xs : Nat → Int32} : am_tbl Ls xs 34 13 = some (o_get 9 7) := (m_34 13).trans rfl
theorem t_34_16 {Ls : Nat} {xs : Nat → Int32} : am_tbl Ls xs 34 16 = some (o_iload 3 1) := (m_34 16).trans rfl
theorem t_34_17 {Ls : Nat} {xs : Nat → Int32} : am_tbl Ls xs 34 17 = some (o_iald 1) := (m_34 17).trans rfl
theorem t_34_18 {Ls : Nat} {xs : Nat → Int32} : am_tbl Ls xs 34 18 = some (o_if (fun x => decide (x ≠ 0)) 25) := (m_34 18).trans rfl
theorem t_34_21 {Ls : Nat} {xs : Nat → Int32} : am_tbl Ls xs 34 21 = some (o_push (.int 0) 1) := (m_34 21).trans rfl
theorem t_34_22 {Ls : Nat} {xs : Nat → Int32} : am_tbl Ls xs 34 22 = some (o_goto 31) := (m_34 22).trans rfl
theorem t_34_25 {Ls : Nat} {xs : Nat → Int32} : am_tbl Ls xs 34 25 = some (o_aload 0 1) := (m_34 25).trans rfl
theorem t_34_26 {Ls : Nat} {xs : Nat → Int32} : am_tbl Ls xs 34 26 = some (o_iload 1 1) := (m_34 26).trans rfl
theorem t_34_27 {Ls : Nat} {xs : Nat → Int32} : am_tbl Ls xs 34 27 = some (o_iload 3 1) := (m_34 27).trans rfl
theorem t_34_28 {Ls : Nat} {xs : Nat → Int32} : am_tbl Ls xs 34 28 = some (o_callv 32 2 9 8) := (m_34 28).trans rfl
theorem t_34_31 {Ls : Nat} {xs : Nat → Int32} : am_tbl Ls xs 34 31 = some (o_nrm [0, 1, 2, 3] (o_istore 4 2)) := (m_34 31).trans rfl
theorem t_34_33 {Ls : Nat} {xs : Nat → Int32} : am_tbl Ls xs 34 33 = some (o_iload 4 2) := (m_34 33).trans rfl
theorem t_34_35 {Ls : Nat} {xs : Nat → Int32} : am_tbl Ls xs 34 35 = some (o_iload 2 1) := (m_34 35).trans rfl
theorem t_34_36 {Ls : Nat} {xs : Nat → Int32} : am_tbl Ls xs 34 36 = some (o_icmp (fun x y => decide (x ≤ y)) 44) := (m_34 36).trans rfl
theorem t_34_39 {Ls : Nat} {xs : Nat → Int32} : am_tbl Ls xs 34 39 = some (o_iload 4 2) := (m_34 39).trans rfl
theorem t_34_41 {Ls : Nat} {xs : Nat → Int32} : am_tbl Ls xs 34 41 = some (o_goto 45) := (m_34 41).trans rfl
theorem t_34_44 {Ls : Nat} {xs : Nat → Int32} : am_tbl Ls xs 34 44 = some (o_iload 2 1) := (m_34 44).trans rfl
theorem t_34_45 {Ls : Nat} {xs : Nat → Int32} : am_tbl Ls xs 34 45 = some (o_nrm [0, 1, 3] (o_istore 2 1)) := (m_34 45).trans rfl
theorem t_34_46 {Ls : Nat} {xs : Nat → Int32} : am_tbl Ls xs 34 46 = some (o_iinc 3 1) := (m_34 46).trans rfl
theorem t_34_49 {Ls : Nat} {xs : Nat → Int32} : am_tbl Ls xs 34 49 = some (o_goto 4) := (m_34 49).trans rfl
theorem t_34_52 {Ls : Nat} {xs : Nat → Int32} : am_tbl Ls xs 34 52 = some (o_iload 2 1) := (m_34 52).trans rfl
theorem t_34_53 {Ls : Nat} {xs : Nat → Int32} : am_tbl Ls xs 34 53 = some (o_iret) := (m_34 53).trans rfl
theorem m_35 {Ls : Nat} {xs : Nat → Int32} (pc : Nat) : am_tbl Ls xs 35 pc = am_lk (op_X9_meanOfAll) pc := rfl
theorem t_35_0 {Ls : Nat} {xs : Nat → Int32} : am_tbl Ls xs 35 0 = some (o_push (.int 0) 1) := (m_35 0).trans rfl
theorem t_35_1 {Ls : Nat} {xs : Nat → Int32} : am_tbl Ls xs 35 1 = some (o_istore 1 1) := (m_35 1).trans rfl
theorem t_35_2 {Ls : Nat} {xs : Nat → Int32} : am_tbl Ls xs 35 2 = some (o_push (.int 0) 1) := (m_35 2).trans rfl
theorem t_35_3 {Ls : Nat} {xs : Nat → Int32} : am_tbl Ls xs 35 3 = some (o_istore 2 1) := (m_35 3).trans rfl
theorem t_35_4 {Ls : Nat} {xs : Nat → Int32} : am_tbl Ls xs 35 4 = some (o_nrm [0, 1, 2] (o_iload 2 1)) := (m_35 4).trans rfl
theorem t_35_5 {Ls : Nat} {xs : Nat → Int32} : am_tbl Ls xs 35 5 = some (o_aload 0 1) := (m_35 5).trans rfl
theorem t_35_6 {Ls : Nat} {xs : Nat → Int32} : am_tbl Ls xs 35 6 = some (o_get 9 8) := (m_35 6).trans rfl
theorem t_35_9 {Ls : Nat} {xs : Nat → Int32} : am_tbl Ls xs 35 9 = some (o_icmp (fun x y => decide (y ≤ x)) 26) := (m_35 9).trans rfl
theorem t_35_12 {Ls : Nat} {xs : Nat → Int32} : am_tbl Ls xs 35 12 = some (o_iload 1 1) := (m_35 12).trans rfl
theorem t_35_13 {Ls : Nat} {xs : Nat → Int32} : am_tbl Ls xs 35 13 = some (o_aload 0 1) := (m_35 13).trans rfl
theorem t_35_14 {Ls : Nat} {xs : Nat → Int32} : am_tbl Ls xs 35 14 = some (o_iload 2 1) := (m_35 14).trans rfl
theorem t_35_15 {Ls : Nat} {xs : Nat → Int32} : am_tbl Ls xs 35 15 = some (o_callv 33 1 9 4) := (m_35 15).trans rfl
theorem t_35_18 {Ls : Nat} {xs : Nat → Int32} : am_tbl Ls xs 35 18 = some (o_ibin (fun x y => x + y)) := (m_35 18).trans rfl
theorem t_35_19 {Ls : Nat} {xs : Nat → Int32} : am_tbl Ls xs 35 19 = some (o_istore 1 1) := (m_35 19).trans rfl
theorem t_35_20 {Ls : Nat} {xs : Nat → Int32} : am_tbl Ls xs 35 20 = some (o_iinc 2 1) := (m_35 20).trans rfl
theorem t_35_23 {Ls : Nat} {xs : Nat → Int32} : am_tbl Ls xs 35 23 = some (o_goto 4) := (m_35 23).trans rfl
theorem t_35_26 {Ls : Nat} {xs : Nat → Int32} : am_tbl Ls xs 35 26 = some (o_iload 1 1) := (m_35 26).trans rfl
theorem t_35_27 {Ls : Nat} {xs : Nat → Int32} : am_tbl Ls xs 35 27 = some (o_iret) := (m_35 27).trans rfl
theorem m_36 {Ls : Nat} {xs : Nat → Int32} (pc : Nat) : am_tbl Ls xs 36 pc = am_lk (op_X9_told) pc := rfl
theorem t_36_0 {Ls : Nat} {xs : Nat → Int32} : am_tbl Ls xs 36 0 = some (o_iload 1 1) := (m_36 0).trans rfl
theorem t_36_1 {Ls : Nat} {xs : Nat → Int32} : am_tbl Ls xs 36 1 = some (o_tsw 0 11 [64, 69, 74, 79, 84, 89, 94, 99, 104, 109, 114, 119] 124) := (m_36 1).trans rfl
theorem t_36_64 {Ls : Nat} {xs : Nat → Int32} : am_tbl Ls xs 36 64 = some (o_aload 0 1) := (m_36 64).trans rfl
theorem t_36_65 {Ls : Nat} {xs : Nat → Int32} : am_tbl Ls xs 36 65 = some (o_get 9 0) := (m_36 65).trans rfl
theorem t_36_68 {Ls : Nat} {xs : Nat → Int32} : am_tbl Ls xs 36 68 = some (o_iret) := (m_36 68).trans rfl
theorem t_36_69 {Ls : Nat} {xs : Nat → Int32} : am_tbl Ls xs 36 69 = some (o_aload 0 1) := (m_36 69).trans rfl
theorem t_36_70 {Ls : Nat} {xs : Nat → Int32} : am_tbl Ls xs 36 70 = some (o_get 9 1) := (m_36 70).trans rfl
theorem t_36_73 {Ls : Nat} {xs : Nat → Int32} : am_tbl Ls xs 36 73 = some (o_iret) := (m_36 73).trans rfl
theorem t_36_74 {Ls : Nat} {xs : Nat → Int32} : am_tbl Ls xs 36 74 = some (o_aload 0 1) := (m_36 74).trans rfl
theorem t_36_75 {Ls : Nat} {xs : Nat → Int32} : am_tbl Ls xs 36 75 = some (o_get 9 3) := (m_36 75).trans rfl
theorem t_36_78 {Ls : Nat} {xs : Nat → Int32} : am_tbl Ls xs 36 78 = some (o_iret) := (m_36 78).trans rfl
theorem t_36_79 {Ls : Nat} {xs : Nat → Int32} : am_tbl Ls xs 36 79 = some (o_aload 0 1) := (m_36 79).trans rfl
theorem t_36_80 {Ls : Nat} {xs : Nat → Int32} : am_tbl Ls xs 36 80 = some (o_get 9 8) := (m_36 80).trans rfl
theorem t_36_83 {Ls : Nat} {xs : Nat → Int32} : am_tbl Ls xs 36 83 = some (o_iret) := (m_36 83).trans rfl
theorem t_36_84 {Ls : Nat} {xs : Nat → Int32} : am_tbl Ls xs 36 84 = some (o_aload 0 1) := (m_36 84).trans rfl
theorem t_36_85 {Ls : Nat} {xs : Nat → Int32} : am_tbl Ls xs 36 85 = some (o_get 9 18) := (m_36 85).trans rfl
theorem t_36_88 {Ls : Nat} {xs : Nat → Int32} : am_tbl Ls xs 36 88 = some (o_iret) := (m_36 88).trans rfl
theorem t_36_89 {Ls : Nat} {xs : Nat → Int32} : am_tbl Ls xs 36 89 = some (o_aload 0 1) := (m_36 89).trans rfl
theorem t_36_90 {Ls : Nat} {xs : Nat → Int32} : am_tbl Ls xs 36 90 = some (o_get 9 15) := (m_36 90).trans rfl
theorem t_36_93 {Ls : Nat} {xs : Nat → Int32} : am_tbl Ls xs 36 93 = some (o_iret) := (m_36 93).trans rfl
theorem t_36_94 {Ls : Nat} {xs : Nat → Int32} : am_tbl Ls xs 36 94 = some (o_aload 0 1) := (m_36 94).trans rfl
theorem t_36_95 {Ls : Nat} {xs : Nat → Int32} : am_tbl Ls xs 36 95 = some (o_get 9 14) := (m_36 95).trans rfl
theorem t_36_98 {Ls : Nat} {xs : Nat → Int32} : am_tbl Ls xs 36 98 = some (o_iret) := (m_36 98).trans rfl
theorem t_36_99 {Ls : Nat} {xs : Nat → Int32} : am_tbl Ls xs 36 99 = some (o_aload 0 1) := (m_36 99).trans rfl
theorem t_36_100 {Ls : Nat} {xs : Nat → Int32} : am_tbl Ls xs 36 100 = some (o_get 9 43) := (m_36 100).trans rfl
theorem t_36_103 {Ls : Nat} {xs : Nat → Int32} : am_tbl Ls xs 36 103 = some (o_iret) := (m_36 103).trans rfl
theorem t_36_104 {Ls : Nat} {xs : Nat → Int32} : am_tbl Ls xs 36 104 = some (o_aload 0 1) := (m_36 104).trans rfl
theorem t_36_105 {Ls : Nat} {xs : Nat → Int32} : am_tbl Ls xs 36 105 = some (o_get 9 52) := (m_36 105).trans rfl
theorem t_36_108 {Ls : Nat} {xs : Nat → Int32} : am_tbl Ls xs 36 108 = some (o_iret) := (m_36 108).trans rfl
theorem t_36_109 {Ls : Nat} {xs : Nat → Int32} : am_tbl Ls xs 36 109 = some (o_aload 0 1) := (m_36 109).trans rfl
theorem t_36_110 {Ls : Nat} {xs : Nat → Int32} : am_tbl Ls xs 36 110 = some (o_get 9 55) := (m_36 110).trans rfl
theorem t_36_113 {Ls : Nat} {xs : Nat → Int32} : am_tbl Ls xs 36 113 = some (o_iret) := (m_36 113).trans rfl
theorem t_36_114 {Ls : Nat} {xs : Nat → Int32} : am_tbl Ls xs 36 114 = some (o_aload 0 1) := (m_36 114).trans rfl
theorem t_36_115 {Ls : Nat} {xs : Nat → Int32} : am_tbl Ls xs 36 115 = some (o_callv 35 0 9 3) := (m_36 115).trans rfl
theorem t_36_118 {Ls : Nat} {xs : Nat → Int32} : am_tbl Ls xs 36 118 = some (o_iret) := (m_36 118).trans rfl
theorem t_36_119 {Ls : Nat} {xs : Nat → Int32} : am_tbl Ls xs 36 119 = some (o_aload 0 1) := (m_36 119).trans rfl
theorem t_36_120 {Ls : Nat} {xs : Nat → Int32} : am_tbl Ls xs 36 120 = some (o_get 9 13) := (m_36 120).trans rfl
theorem t_36_123 {Ls : Nat} {xs : Nat → Int32} : am_tbl Ls xs 36 123 = some (o_iret) := (m_36 123).trans rfl
theorem t_36_124 {Ls : Nat} {xs : Nat → Int32} : am_tbl Ls xs 36 124 = some (o_push (.int (-1000000002)) 2) := (m_36 124).trans rfl
theorem t_36_126 {Ls : Nat} {xs : Nat → Int32} : am_tbl Ls xs 36 126 = some (o_iret) := (m_36 126).trans rfl
theorem m_37 {Ls : Nat} {xs : Nat → Int32} (pc : Nat) : am_tbl Ls xs 37 pc = am_lk (op_X9_castersAt) pc := rfl
theorem t_37_0 {Ls : Nat} {xs : Nat → Int32} : am_tbl Ls xs 37 0 = some (o_aload 0 1) := (m_37 0).trans rfl
theorem t_37_1 {Ls : Nat} {xs : Nat → Int32} : am_tbl Ls xs 37 1 = some (o_iload 2 1) := (m_37 1).trans rfl
theorem t_37_2 {Ls : Nat} {xs : Nat → Int32} : am_tbl Ls xs 37 2 = some (o_callv 28 1 9 5) := (m_37 2).trans rfl
theorem t_37_5 {Ls : Nat} {xs : Nat → Int32} : am_tbl Ls xs 37 5 = some (o_lstore 3 1) := (m_37 5).trans rfl
theorem t_37_6 {Ls : Nat} {xs : Nat → Int32} : am_tbl Ls xs 37 6 = some (o_push (.int 0) 1) := (m_37 6).trans rfl
theorem t_37_7 {Ls : Nat} {xs : Nat → Int32} : am_tbl Ls xs 37 7 = some (o_istore 5 2) := (m_37 7).trans rfl
theorem t_37_9 {Ls : Nat} {xs : Nat → Int32} : am_tbl Ls xs 37 9 = some (o_push (.int 0) 1) := (m_37 9).trans rfl
theorem t_37_10 {Ls : Nat} {xs : Nat → Int32} : am_tbl Ls xs 37 10 = some (o_istore 6 2) := (m_37 10).trans rfl
theorem t_37_12 {Ls : Nat} {xs : Nat → Int32} : am_tbl Ls xs 37 12 = some (o_nrm [0, 1, 2, 3, 5, 6] (o_iload 6 2)) := (m_37 12).trans rfl
theorem t_37_14 {Ls : Nat} {xs : Nat → Int32} : am_tbl Ls xs 37 14 = some (o_aload 0 1) := (m_37 14).trans rfl
theorem t_37_15 {Ls : Nat} {xs : Nat → Int32} : am_tbl Ls xs 37 15 = some (o_get 9 8) := (m_37 15).trans rfl
theorem t_37_18 {Ls : Nat} {xs : Nat → Int32} : am_tbl Ls xs 37 18 = some (o_icmp (fun x y => decide (y ≤ x)) 55) := (m_37 18).trans rfl
theorem t_37_21 {Ls : Nat} {xs : Nat → Int32} : am_tbl Ls xs 37 21 = some (o_iload 5 2) := (m_37 21).trans rfl
theorem t_37_23 {Ls : Nat} {xs : Nat → Int32} : am_tbl Ls xs 37 23 = some (o_aload 0 1) := (m_37 23).trans rfl
theorem t_37_24 {Ls : Nat} {xs : Nat → Int32} : am_tbl Ls xs 37 24 = some (o_iload 6 2) := (m_37 24).trans rfl
theorem t_37_26 {Ls : Nat} {xs : Nat → Int32} : am_tbl Ls xs 37 26 = some (o_iload 2 1) := (m_37 26).trans rfl
theorem t_37_27 {Ls : Nat} {xs : Nat → Int32} : am_tbl Ls xs 37 27 = some (o_lload 3 1) := (m_37 27).trans rfl
theorem t_37_28 {Ls : Nat} {xs : Nat → Int32} : am_tbl Ls xs 37 28 = some (o_callv 30 3 9 5) := (m_37 28).trans rfl
theorem t_37_31 {Ls : Nat} {xs : Nat → Int32} : am_tbl Ls xs 37 31 = some (o_iload 1 1) := (m_37 31).trans rfl
theorem t_37_32 {Ls : Nat} {xs : Nat → Int32} : am_tbl Ls xs 37 32 = some (o_calls 2 2 3) := (m_37 32).trans rfl
theorem t_37_35 {Ls : Nat} {xs : Nat → Int32} : am_tbl Ls xs 37 35 = some (o_if (fun x => decide (x = 0)) 45) := (m_37 35).trans rfl
theorem t_37_38 {Ls : Nat} {xs : Nat → Int32} : am_tbl Ls xs 37 38 = some (o_push (.int 1) 1) := (m_37 38).trans rfl
theorem t_37_39 {Ls : Nat} {xs : Nat → Int32} : am_tbl Ls xs 37 39 = some (o_iload 6 2) := (m_37 39).trans rfl
theorem t_37_41 {Ls : Nat} {xs : Nat → Int32} : am_tbl Ls xs 37 41 = some (o_ibin (fun x y => x <<< (y &&& 31))) := (m_37 41).trans rfl
theorem t_37_42 {Ls : Nat} {xs : Nat → Int32} : am_tbl Ls xs 37 42 = some (o_goto 46) := (m_37 42).trans rfl
theorem t_37_45 {Ls : Nat} {xs : Nat → Int32} : am_tbl Ls xs 37 45 = some (o_push (.int 0) 1) := (m_37 45).trans rfl
theorem t_37_46 {Ls : Nat} {xs : Nat → Int32} : am_tbl Ls xs 37 46 = some (o_nrm [0, 1, 2, 3, 6] (o_ibin (fun x y => x ||| y))) := (m_37 46).trans rfl
theorem t_37_47 {Ls : Nat} {xs : Nat → Int32} : am_tbl Ls xs 37 47 = some (o_istore 5 2) := (m_37 47).trans rfl
theorem t_37_49 {Ls : Nat} {xs : Nat → Int32} : am_tbl Ls xs 37 49 = some (o_iinc 6 1) := (m_37 49).trans rfl
theorem t_37_52 {Ls : Nat} {xs : Nat → Int32} : am_tbl Ls xs 37 52 = some (o_goto 12) := (m_37 52).trans rfl
theorem t_37_55 {Ls : Nat} {xs : Nat → Int32} : am_tbl Ls xs 37 55 = some (o_iload 5 2) := (m_37 55).trans rfl
theorem t_37_57 {Ls : Nat} {xs : Nat → Int32} : am_tbl Ls xs 37 57 = some (o_iret) := (m_37 57).trans rfl
theorem m_38 {Ls : Nat} {xs : Nat → Int32} (pc : Nat) : am_tbl Ls xs 38 pc = am_lk (op_X9_payerAt) pc := rfl
theorem t_38_0 {Ls : Nat} {xs : Nat → Int32} : am_tbl Ls xs 38 0 = some (o_aload 0 1) := (m_38 0).trans rfl
theorem t_38_1 {Ls : Nat} {xs : Nat → Int32} : am_tbl Ls xs 38 1 = some (o_iload 1 1) := (m_38 1).trans rfl
theorem t_38_2 {Ls : Nat} {xs : Nat → Int32} : am_tbl Ls xs 38 2 = some (o_iload 2 1) := (m_38 2).trans rfl
theorem t_38_3 {Ls : Nat} {xs : Nat → Int32} : am_tbl Ls xs 38 3 = some (o_callv 37 2 9 7) := (m_38 3).trans rfl
theorem t_38_6 {Ls : Nat} {xs : Nat → Int32} : am_tbl Ls xs 38 6 = some (o_istore 3 1) := (m_38 6).trans rfl
theorem t_38_7 {Ls : Nat} {xs : Nat → Int32} : am_tbl Ls xs 38 7 = some (o_push (.int (-1)) 1) := (m_38 7).trans rfl
theorem t_38_8 {Ls : Nat} {xs : Nat → Int32} : am_tbl Ls xs 38 8 = some (o_istore 4 2) := (m_38 8).trans rfl
theorem t_38_10 {Ls : Nat} {xs : Nat → Int32} : am_tbl Ls xs 38 10 = some (o_push (.int 0) 1) := (m_38 10).trans rfl
theorem t_38_11 {Ls : Nat} {xs : Nat → Int32} : am_tbl Ls xs 38 11 = some (o_istore 5 2) := (m_38 11).trans rfl
theorem t_38_13 {Ls : Nat} {xs : Nat → Int32} : am_tbl Ls xs 38 13 = some (o_nrm [0, 1, 2, 3, 4, 5] (o_iload 5 2)) := (m_38 13).trans rfl
theorem t_38_15 {Ls : Nat} {xs : Nat → Int32} : am_tbl Ls xs 38 15 = some (o_aload 0 1) := (m_38 15).trans rfl
theorem t_38_16 {Ls : Nat} {xs : Nat → Int32} : am_tbl Ls xs 38 16 = some (o_get 9 8) := (m_38 16).trans rfl
theorem t_38_19 {Ls : Nat} {xs : Nat → Int32} : am_tbl Ls xs 38 19 = some (o_icmp (fun x y => decide (y ≤ x)) 63) := (m_38 19).trans rfl
theorem t_38_22 {Ls : Nat} {xs : Nat → Int32} : am_tbl Ls xs 38 22 = some (o_iload 3 1) := (m_38 22).trans rfl
theorem t_38_23 {Ls : Nat} {xs : Nat → Int32} : am_tbl Ls xs 38 23 = some (o_i2l) := (m_38 23).trans rfl
theorem t_38_24 {Ls : Nat} {xs : Nat → Int32} : am_tbl Ls xs 38 24 = some (o_iload 5 2) := (m_38 24).trans rfl
theorem t_38_26 {Ls : Nat} {xs : Nat → Int32} : am_tbl Ls xs 38 26 = some (o_calls 2 2 3) := (m_38 26).trans rfl
theorem t_38_29 {Ls : Nat} {xs : Nat → Int32} : am_tbl Ls xs 38 29 = some (o_if (fun x => decide (x = 0)) 53) := (m_38 29).trans rfl
theorem t_38_32 {Ls : Nat} {xs : Nat → Int32} : am_tbl Ls xs 38 32 = some (o_iload 4 2) := (m_38 32).trans rfl
theorem t_38_34 {Ls : Nat} {xs : Nat → Int32} : am_tbl Ls xs 38 34 = some (o_if (fun x => decide (x < 0)) 48) := (m_38 34).trans rfl
theorem t_38_37 {Ls : Nat} {xs : Nat → Int32} : am_tbl Ls xs 38 37 = some (o_aload 0 1) := (m_38 37).trans rfl
theorem t_38_38 {Ls : Nat} {xs : Nat → Int32} : am_tbl Ls xs 38 38 = some (o_iload 5 2) := (m_38 38).trans rfl
theorem t_38_40 {Ls : Nat} {xs : Nat → Int32} : am_tbl Ls xs 38 40 = some (o_iload 4 2) := (m_38 40).trans rfl
theorem t_38_42 {Ls : Nat} {xs : Nat → Int32} : am_tbl Ls xs 38 42 = some (o_callv 31 2 9 3) := (m_38 42).trans rfl
theorem t_38_45 {Ls : Nat} {xs : Nat → Int32} : am_tbl Ls xs 38 45 = some (o_if (fun x => decide (x = 0)) 53) := (m_38 45).trans rfl
theorem t_38_48 {Ls : Nat} {xs : Nat → Int32} : am_tbl Ls xs 38 48 = some (o_nrm [0, 1, 2, 3, 5] (o_iload 5 2)) := (m_38 48).trans rfl
theorem t_38_50 {Ls : Nat} {xs : Nat → Int32} : am_tbl Ls xs 38 50 = some (o_goto 55) := (m_38 50).trans rfl
theorem t_38_53 {Ls : Nat} {xs : Nat → Int32} : am_tbl Ls xs 38 53 = some (o_nrm [0, 1, 2, 3, 4, 5] (o_iload 4 2)) := (m_38 53).trans rfl
theorem t_38_55 {Ls : Nat} {xs : Nat → Int32} : am_tbl Ls xs 38 55 = some (o_nrm [0, 1, 2, 3, 5] (o_istore 4 2)) := (m_38 55).trans rfl
theorem t_38_57 {Ls : Nat} {xs : Nat → Int32} : am_tbl Ls xs 38 57 = some (o_iinc 5 1) := (m_38 57).trans rfl
theorem t_38_60 {Ls : Nat} {xs : Nat → Int32} : am_tbl Ls xs 38 60 = some (o_goto 13) := (m_38 60).trans rfl
theorem t_38_63 {Ls : Nat} {xs : Nat → Int32} : am_tbl Ls xs 38 63 = some (o_aload 0 1) := (m_38 63).trans rfl
theorem t_38_64 {Ls : Nat} {xs : Nat → Int32} : am_tbl Ls xs 38 64 = some (o_iload 2 1) := (m_38 64).trans rfl
theorem t_38_65 {Ls : Nat} {xs : Nat → Int32} : am_tbl Ls xs 38 65 = some (o_callv 28 1 9 5) := (m_38 65).trans rfl
theorem t_38_68 {Ls : Nat} {xs : Nat → Int32} : am_tbl Ls xs 38 68 = some (o_iload 1 1) := (m_38 68).trans rfl
theorem t_38_69 {Ls : Nat} {xs : Nat → Int32} : am_tbl Ls xs 38 69 = some (o_calls 2 2 3) := (m_38 69).trans rfl
theorem t_38_72 {Ls : Nat} {xs : Nat → Int32} : am_tbl Ls xs 38 72 = some (o_if (fun x => decide (x = 0)) 79) := (m_38 72).trans rfl
theorem t_38_75 {Ls : Nat} {xs : Nat → Int32} : am_tbl Ls xs 38 75 = some (o_push (.int (-1)) 1) := (m_38 75).trans rfl
theorem t_38_76 {Ls : Nat} {xs : Nat → Int32} : am_tbl Ls xs 38 76 = some (o_goto 81) := (m_38 76).trans rfl
theorem t_38_79 {Ls : Nat} {xs : Nat → Int32} : am_tbl Ls xs 38 79 = some (o_iload 4 2) := (m_38 79).trans rfl
theorem t_38_81 {Ls : Nat} {xs : Nat → Int32} : am_tbl Ls xs 38 81 = some (o_nrm [] (o_iret)) := (m_38 81).trans rfl
theorem m_39 {Ls : Nat} {xs : Nat → Int32} (pc : Nat) : am_tbl Ls xs 39 pc = am_lk (op_X9_cell) pc := rfl
theorem t_39_0 {Ls : Nat} {xs : Nat → Int32} : am_tbl Ls xs 39 0 = some (o_aload 0 1) := (m_39 0).trans rfl
theorem t_39_1 {Ls : Nat} {xs : Nat → Int32} : am_tbl Ls xs 39 1 = some (o_iload 1 1) := (m_39 1).trans rfl
theorem t_39_2 {Ls : Nat} {xs : Nat → Int32} : am_tbl Ls xs 39 2 = some (o_iload 2 1) := (m_39 2).trans rfl
theorem t_39_3 {Ls : Nat} {xs : Nat → Int32} : am_tbl Ls xs 39 3 = some (o_callv 4 2 9 3) := (m_39 3).trans rfl
theorem t_39_6 {Ls : Nat} {xs : Nat → Int32} : am_tbl Ls xs 39 6 = some (o_if (fun x => decide (x = 0)) 17) := (m_39 6).trans rfl
theorem t_39_9 {Ls : Nat} {xs : Nat → Int32} : am_tbl Ls xs 39 9 = some (o_aload 0 1) := (m_39 9).trans rfl
theorem t_39_10 {Ls : Nat} {xs : Nat → Int32} : am_tbl Ls xs 39 10 = some (o_iload 3 1) := (m_39 10).trans rfl
theorem t_39_11 {Ls : Nat} {xs : Nat → Int32} : am_tbl Ls xs 39 11 = some (o_callv 6 1 9 2) := (m_39 11).trans rfl
theorem t_39_14 {Ls : Nat} {xs : Nat → Int32} : am_tbl Ls xs 39 14 = some (o_if (fun x => decide (x ≠ 0)) 21) := (m_39 14).trans rfl
theorem t_39_17 {Ls : Nat} {xs : Nat → Int32} : am_tbl Ls xs 39 17 = some (o_nrm [] (o_push (.int (-1000000001)) 3)) := (m_39 17).trans rfl
theorem t_39_20 {Ls : Nat} {xs : Nat → Int32} : am_tbl Ls xs 39 20 = some (o_iret) := (m_39 20).trans rfl
theorem t_39_21 {Ls : Nat} {xs : Nat → Int32} : am_tbl Ls xs 39 21 = some (o_aload 0 1) := (m_39 21).trans rfl
theorem t_39_22 {Ls : Nat} {xs : Nat → Int32} : am_tbl Ls xs 39 22 = some (o_get 9 0) := (m_39 22).trans rfl
theorem t_39_25 {Ls : Nat} {xs : Nat → Int32} : am_tbl Ls xs 39 25 = some (o_iload 2 1) := (m_39 25).trans rfl
theorem t_39_26 {Ls : Nat} {xs : Nat → Int32} : am_tbl Ls xs 39 26 = some (o_ibin (fun x y => x * y)) := (m_39 26).trans rfl
theorem t_39_27 {Ls : Nat} {xs : Nat → Int32} : am_tbl Ls xs 39 27 = some (o_iload 1 1) := (m_39 27).trans rfl
theorem t_39_28 {Ls : Nat} {xs : Nat → Int32} : am_tbl Ls xs 39 28 = some (o_ibin (fun x y => x + y)) := (m_39 28).trans rfl
theorem t_39_29 {Ls : Nat} {xs : Nat → Int32} : am_tbl Ls xs 39 29 = some (o_istore 5 2) := (m_39 29).trans rfl
theorem t_39_31 {Ls : Nat} {xs : Nat → Int32} : am_tbl Ls xs 39 31 = some (o_iload 4 2) := (m_39 31).trans rfl
theorem t_39_33 {Ls : Nat} {xs : Nat → Int32} : am_tbl Ls xs 39 33 = some (o_tsw 0 3 [64, 72, 91, 99] 107) := (m_39 33).trans rfl
theorem t_39_64 {Ls : Nat} {xs : Nat → Int32} : am_tbl Ls xs 39 64 = some (o_aload 0 1) := (m_39 64).trans rfl
theorem t_39_65 {Ls : Nat} {xs : Nat → Int32} : am_tbl Ls xs 39 65 = some (o_get 9 2) := (m_39 65).trans rfl
theorem t_39_68 {Ls : Nat} {xs : Nat → Int32} : am_tbl Ls xs 39 68 = some (o_iload 5 2) := (m_39 68).trans rfl
theorem t_39_70 {Ls : Nat} {xs : Nat → Int32} : am_tbl Ls xs 39 70 = some (o_iald 1) := (m_39 70).trans rfl
theorem t_39_71 {Ls : Nat} {xs : Nat → Int32} : am_tbl Ls xs 39 71 = some (o_iret) := (m_39 71).trans rfl
theorem t_39_72 {Ls : Nat} {xs : Nat → Int32} : am_tbl Ls xs 39 72 = some (o_aload 0 1) := (m_39 72).trans rfl
theorem t_39_73 {Ls : Nat} {xs : Nat → Int32} : am_tbl Ls xs 39 73 = some (o_iload 3 1) := (m_39 73).trans rfl
theorem t_39_74 {Ls : Nat} {xs : Nat → Int32} : am_tbl Ls xs 39 74 = some (o_callv 28 1 9 5) := (m_39 74).trans rfl
theorem t_39_77 {Ls : Nat} {xs : Nat → Int32} : am_tbl Ls xs 39 77 = some (o_iload 5 2) := (m_39 77).trans rfl
theorem t_39_79 {Ls : Nat} {xs : Nat → Int32} : am_tbl Ls xs 39 79 = some (o_calls 2 2 3) := (m_39 79).trans rfl
theorem t_39_82 {Ls : Nat} {xs : Nat → Int32} : am_tbl Ls xs 39 82 = some (o_if (fun x => decide (x = 0)) 89) := (m_39 82).trans rfl
theorem t_39_85 {Ls : Nat} {xs : Nat → Int32} : am_tbl Ls xs 39 85 = some (o_push (.int 1) 1) := (m_39 85).trans rfl
theorem t_39_86 {Ls : Nat} {xs : Nat → Int32} : am_tbl Ls xs 39 86 = some (o_goto 90) := (m_39 86).trans rfl
theorem t_39_89 {Ls : Nat} {xs : Nat → Int32} : am_tbl Ls xs 39 89 = some (o_push (.int 0) 1) := (m_39 89).trans rfl
theorem t_39_90 {Ls : Nat} {xs : Nat → Int32} : am_tbl Ls xs 39 90 = some (o_nrm [] (o_iret)) := (m_39 90).trans rfl
theorem t_39_91 {Ls : Nat} {xs : Nat → Int32} : am_tbl Ls xs 39 91 = some (o_aload 0 1) := (m_39 91).trans rfl
theorem t_39_92 {Ls : Nat} {xs : Nat → Int32} : am_tbl Ls xs 39 92 = some (o_iload 5 2) := (m_39 92).trans rfl
theorem t_39_94 {Ls : Nat} {xs : Nat → Int32} : am_tbl Ls xs 39 94 = some (o_iload 3 1) := (m_39 94).trans rfl
theorem t_39_95 {Ls : Nat} {xs : Nat → Int32} : am_tbl Ls xs 39 95 = some (o_callv 37 2 9 7) := (m_39 95).trans rfl
theorem t_39_98 {Ls : Nat} {xs : Nat → Int32} : am_tbl Ls xs 39 98 = some (o_iret) := (m_39 98).trans rfl
theorem t_39_99 {Ls : Nat} {xs : Nat → Int32} : am_tbl Ls xs 39 99 = some (o_aload 0 1) := (m_39 99).trans rfl
theorem t_39_100 {Ls : Nat} {xs : Nat → Int32} : am_tbl Ls xs 39 100 = some (o_iload 5 2) := (m_39 100).trans rfl
theorem t_39_102 {Ls : Nat} {xs : Nat → Int32} : am_tbl Ls xs 39 102 = some (o_iload 3 1) := (m_39 102).trans rfl
theorem t_39_103 {Ls : Nat} {xs : Nat → Int32} : am_tbl Ls xs 39 103 = some (o_callv 38 2 9 6) := (m_39 103).trans rfl
theorem t_39_106 {Ls : Nat} {xs : Nat → Int32} : am_tbl Ls xs 39 106 = some (o_iret) := (m_39 106).trans rfl
theorem t_39_107 {Ls : Nat} {xs : Nat → Int32} : am_tbl Ls xs 39 107 = some (o_push (.int (-1000000002)) 2) := (m_39 107).trans rfl
theorem t_39_109 {Ls : Nat} {xs : Nat → Int32} : am_tbl Ls xs 39 109 = some (o_iret) := (m_39 109).trans rfl
theorem m_40 {Ls : Nat} {xs : Nat → Int32} (pc : Nat) : am_tbl Ls xs 40 pc = am_lk (op_X9_person) pc := rfl
theorem t_40_0 {Ls : Nat} {xs : Nat → Int32} : am_tbl Ls xs 40 0 = some (o_aload 0 1) := (m_40 0).trans rfl
theorem t_40_1 {Ls : Nat} {xs : Nat → Int32} : am_tbl Ls xs 40 1 = some (o_iload 1 1) := (m_40 1).trans rfl
theorem t_40_2 {Ls : Nat} {xs : Nat → Int32} : am_tbl Ls xs 40 2 = some (o_callv 5 1 9 2) := (m_40 2).trans rfl
theorem t_40_5 {Ls : Nat} {xs : Nat → Int32} : am_tbl Ls xs 40 5 = some (o_if (fun x => decide (x ≠ 0)) 12) := (m_40 5).trans rfl
theorem t_40_8 {Ls : Nat} {xs : Nat → Int32} : am_tbl Ls xs 40 8 = some (o_push (.int (-1000000001)) 3) := (m_40 8).trans rfl
theorem t_40_11 {Ls : Nat} {xs : Nat → Int32} : am_tbl Ls xs 40 11 = some (o_iret) := (m_40 11).trans rfl
theorem t_40_12 {Ls : Nat} {xs : Nat → Int32} : am_tbl Ls xs 40 12 = some (o_iload 2 1) := (m_40 12).trans rfl
theorem t_40_13 {Ls : Nat} {xs : Nat → Int32} : am_tbl Ls xs 40 13 = some (o_tsw 0 6 [56, 68, 80, 86, 101, 108, 114] 120) := (m_40 13).trans rfl
theorem t_40_56 {Ls : Nat} {xs : Nat → Int32} : am_tbl Ls xs 40 56 = some (o_aload 0 1) := (m_40 56).trans rfl
theorem t_40_57 {Ls : Nat} {xs : Nat → Int32} : am_tbl Ls xs 40 57 = some (o_get 9 9) := (m_40 57).trans rfl
theorem t_40_60 {Ls : Nat} {xs : Nat → Int32} : am_tbl Ls xs 40 60 = some (o_iload 1 1) := (m_40 60).trans rfl
theorem t_40_61 {Ls : Nat} {xs : Nat → Int32} : am_tbl Ls xs 40 61 = some (o_iald 1) := (m_40 61).trans rfl
theorem t_40_62 {Ls : Nat} {xs : Nat → Int32} : am_tbl Ls xs 40 62 = some (o_aload 0 1) := (m_40 62).trans rfl
theorem t_40_63 {Ls : Nat} {xs : Nat → Int32} : am_tbl Ls xs 40 63 = some (o_get 9 0) := (m_40 63).trans rfl
theorem t_40_66 {Ls : Nat} {xs : Nat → Int32} : am_tbl Ls xs 40 66 = some (o_idv (fun x y => x - x / y * y)) := (m_40 66).trans rfl
theorem t_40_67 {Ls : Nat} {xs : Nat → Int32} : am_tbl Ls xs 40 67 = some (o_iret) := (m_40 67).trans rfl
theorem t_40_68 {Ls : Nat} {xs : Nat → Int32} : am_tbl Ls xs 40 68 = some (o_aload 0 1) := (m_40 68).trans rfl
theorem t_40_69 {Ls : Nat} {xs : Nat → Int32} : am_tbl Ls xs 40 69 = some (o_get 9 9) := (m_40 69).trans rfl
theorem t_40_72 {Ls : Nat} {xs : Nat → Int32} : am_tbl Ls xs 40 72 = some (o_iload 1 1) := (m_40 72).trans rfl
theorem t_40_73 {Ls : Nat} {xs : Nat → Int32} : am_tbl Ls xs 40 73 = some (o_iald 1) := (m_40 73).trans rfl
theorem t_40_74 {Ls : Nat} {xs : Nat → Int32} : am_tbl Ls xs 40 74 = some (o_aload 0 1) := (m_40 74).trans rfl
theorem t_40_75 {Ls : Nat} {xs : Nat → Int32} : am_tbl Ls xs 40 75 = some (o_get 9 0) := (m_40 75).trans rfl
theorem t_40_78 {Ls : Nat} {xs : Nat → Int32} : am_tbl Ls xs 40 78 = some (o_idv (fun x y => x / y)) := (m_40 78).trans rfl
theorem t_40_79 {Ls : Nat} {xs : Nat → Int32} : am_tbl Ls xs 40 79 = some (o_iret) := (m_40 79).trans rfl
theorem t_40_80 {Ls : Nat} {xs : Nat → Int32} : am_tbl Ls xs 40 80 = some (o_aload 0 1) := (m_40 80).trans rfl
theorem t_40_81 {Ls : Nat} {xs : Nat → Int32} : am_tbl Ls xs 40 81 = some (o_iload 1 1) := (m_40 81).trans rfl
theorem t_40_82 {Ls : Nat} {xs : Nat → Int32} : am_tbl Ls xs 40 82 = some (o_callv 29 1 9 2) := (m_40 82).trans rfl
theorem t_40_85 {Ls : Nat} {xs : Nat → Int32} : am_tbl Ls xs 40 85 = some (o_iret) := (m_40 85).trans rfl
theorem t_40_86 {Ls : Nat} {xs : Nat → Int32} : am_tbl Ls xs 40 86 = some (o_aload 0 1) := (m_40 86).trans rfl
theorem t_40_87 {Ls : Nat} {xs : Nat → Int32} : am_tbl Ls xs 40 87 = some (o_get 9 11) := (m_40 87).trans rfl
theorem t_40_90 {Ls : Nat} {xs : Nat → Int32} : am_tbl Ls xs 40 90 = some (o_iload 1 1) := (m_40 90).trans rfl
theorem t_40_91 {Ls : Nat} {xs : Nat → Int32} : am_tbl Ls xs 40 91 = some (o_iald 3) := (m_40 91).trans rfl
theorem t_40_92 {Ls : Nat} {xs : Nat → Int32} : am_tbl Ls xs 40 92 = some (o_if (fun x => decide (x = 0)) 99) := (m_40 92).trans rfl
theorem t_40_95 {Ls : Nat} {xs : Nat → Int32} : am_tbl Ls xs 40 95 = some (o_push (.int 1) 1) := (m_40 95).trans rfl
theorem t_40_96 {Ls : Nat} {xs : Nat → Int32} : am_tbl Ls xs 40 96 = some (o_goto 100) := (m_40 96).trans rfl
theorem t_40_99 {Ls : Nat} {xs : Nat → Int32} : am_tbl Ls xs 40 99 = some (o_push (.int 0) 1) := (m_40 99).trans rfl
theorem t_40_100 {Ls : Nat} {xs : Nat → Int32} : am_tbl Ls xs 40 100 = some (o_nrm [] (o_iret)) := (m_40 100).trans rfl
theorem t_40_101 {Ls : Nat} {xs : Nat → Int32} : am_tbl Ls xs 40 101 = some (o_aload 0 1) := (m_40 101).trans rfl
theorem t_40_102 {Ls : Nat} {xs : Nat → Int32} : am_tbl Ls xs 40 102 = some (o_get 9 12) := (m_40 102).trans rfl
theorem t_40_105 {Ls : Nat} {xs : Nat → Int32} : am_tbl Ls xs 40 105 = some (o_iload 1 1) := (m_40 105).trans rfl
theorem t_40_106 {Ls : Nat} {xs : Nat → Int32} : am_tbl Ls xs 40 106 = some (o_iald 1) := (m_40 106).trans rfl
theorem t_40_107 {Ls : Nat} {xs : Nat → Int32} : am_tbl Ls xs 40 107 = some (o_iret) := (m_40 107).trans rfl
theorem t_40_108 {Ls : Nat} {xs : Nat → Int32} : am_tbl Ls xs 40 108 = some (o_aload 0 1) := (m_40 108).trans rfl
theorem t_40_109 {Ls : Nat} {xs : Nat → Int32} : am_tbl Ls xs 40 109 = some (o_iload 1 1) := (m_40 109).trans rfl
theorem t_40_110 {Ls : Nat} {xs : Nat → Int32} : am_tbl Ls xs 40 110 = some (o_callv 33 1 9 4) := (m_40 110).trans rfl
theorem t_40_113 {Ls : Nat} {xs : Nat → Int32} : am_tbl Ls xs 40 113 = some (o_iret) := (m_40 113).trans rfl
theorem t_40_114 {Ls : Nat} {xs : Nat → Int32} : am_tbl Ls xs 40 114 = some (o_aload 0 1) := (m_40 114).trans rfl
theorem t_40_115 {Ls : Nat} {xs : Nat → Int32} : am_tbl Ls xs 40 115 = some (o_iload 1 1) := (m_40 115).trans rfl
theorem t_40_116 {Ls : Nat} {xs : Nat → Int32} : am_tbl Ls xs 40 116 = some (o_callv 34 1 9 5) := (m_40 116).trans rfl
theorem t_40_119 {Ls : Nat} {xs : Nat → Int32} : am_tbl Ls xs 40 119 = some (o_iret) := (m_40 119).trans rfl
theorem t_40_120 {Ls : Nat} {xs : Nat → Int32} : am_tbl Ls xs 40 120 = some (o_push (.int (-1000000002)) 2) := (m_40 120).trans rfl
theorem t_40_122 {Ls : Nat} {xs : Nat → Int32} : am_tbl Ls xs 40 122 = some (o_iret) := (m_40 122).trans rfl
theorem m_41 {Ls : Nat} {xs : Nat → Int32} (pc : Nat) : am_tbl Ls xs 41 pc = am_lk (op_X9_owed) pc := rfl
theorem t_41_0 {Ls : Nat} {xs : Nat → Int32} : am_tbl Ls xs 41 0 = some (o_aload 0 1) := (m_41 0).trans rfl
theorem t_41_1 {Ls : Nat} {xs : Nat → Int32} : am_tbl Ls xs 41 1 = some (o_iload 1 1) := (m_41 1).trans rfl
theorem t_41_2 {Ls : Nat} {xs : Nat → Int32} : am_tbl Ls xs 41 2 = some (o_callv 5 1 9 2) := (m_41 2).trans rfl
theorem t_41_5 {Ls : Nat} {xs : Nat → Int32} : am_tbl Ls xs 41 5 = some (o_if (fun x => decide (x = 0)) 25) := (m_41 5).trans rfl
theorem t_41_8 {Ls : Nat} {xs : Nat → Int32} : am_tbl Ls xs 41 8 = some (o_aload 0 1) := (m_41 8).trans rfl
theorem t_41_9 {Ls : Nat} {xs : Nat → Int32} : am_tbl Ls xs 41 9 = some (o_iload 2 1) := (m_41 9).trans rfl
theorem t_41_10 {Ls : Nat} {xs : Nat → Int32} : am_tbl Ls xs 41 10 = some (o_callv 6 1 9 2) := (m_41 10).trans rfl
theorem t_41_13 {Ls : Nat} {xs : Nat → Int32} : am_tbl Ls xs 41 13 = some (o_if (fun x => decide (x = 0)) 25) := (m_41 13).trans rfl
theorem t_41_16 {Ls : Nat} {xs : Nat → Int32} : am_tbl Ls xs 41 16 = some (o_aload 0 1) := (m_41 16).trans rfl
theorem t_41_17 {Ls : Nat} {xs : Nat → Int32} : am_tbl Ls xs 41 17 = some (o_iload 1 1) := (m_41 17).trans rfl
theorem t_41_18 {Ls : Nat} {xs : Nat → Int32} : am_tbl Ls xs 41 18 = some (o_iload 2 1) := (m_41 18).trans rfl
theorem t_41_19 {Ls : Nat} {xs : Nat → Int32} : am_tbl Ls xs 41 19 = some (o_callv 32 2 9 8) := (m_41 19).trans rfl
theorem t_41_22 {Ls : Nat} {xs : Nat → Int32} : am_tbl Ls xs 41 22 = some (o_goto 28) := (m_41 22).trans rfl
theorem t_41_25 {Ls : Nat} {xs : Nat → Int32} : am_tbl Ls xs 41 25 = some (o_nrm [] (o_push (.int (-1000000001)) 3)) := (m_41 25).trans rfl
theorem t_41_28 {Ls : Nat} {xs : Nat → Int32} : am_tbl Ls xs 41 28 = some (o_nrm [] (o_iret)) := (m_41 28).trans rfl
theorem m_42 {Ls : Nat} {xs : Nat → Int32} (pc : Nat) : am_tbl Ls xs 42 pc = am_lk (op_X9_go) pc := rfl
theorem t_42_0 {Ls : Nat} {xs : Nat → Int32} : am_tbl Ls xs 42 0 = some (o_aload 0 1) := (m_42 0).trans rfl
theorem t_42_1 {Ls : Nat} {xs : Nat → Int32} : am_tbl Ls xs 42 1 = some (o_iload 1 1) := (m_42 1).trans rfl
theorem t_42_2 {Ls : Nat} {xs : Nat → Int32} : am_tbl Ls xs 42 2 = some (o_callv 5 1 9 2) := (m_42 2).trans rfl
theorem t_42_5 {Ls : Nat} {xs : Nat → Int32} : am_tbl Ls xs 42 5 = some (o_if (fun x => decide (x = 0)) 17) := (m_42 5).trans rfl
theorem t_42_8 {Ls : Nat} {xs : Nat → Int32} : am_tbl Ls xs 42 8 = some (o_aload 0 1) := (m_42 8).trans rfl
theorem t_42_9 {Ls : Nat} {xs : Nat → Int32} : am_tbl Ls xs 42 9 = some (o_iload 2 1) := (m_42 9).trans rfl
theorem t_42_10 {Ls : Nat} {xs : Nat → Int32} : am_tbl Ls xs 42 10 = some (o_iload 3 1) := (m_42 10).trans rfl
theorem t_42_11 {Ls : Nat} {xs : Nat → Int32} : am_tbl Ls xs 42 11 = some (o_callv 4 2 9 3) := (m_42 11).trans rfl
theorem t_42_14 {Ls : Nat} {xs : Nat → Int32} : am_tbl Ls xs 42 14 = some (o_if (fun x => decide (x ≠ 0)) 21) := (m_42 14).trans rfl
theorem t_42_17 {Ls : Nat} {xs : Nat → Int32} : am_tbl Ls xs 42 17 = some (o_nrm [] (o_push (.int (-1000000001)) 3)) := (m_42 17).trans rfl
theorem t_42_20 {Ls : Nat} {xs : Nat → Int32} : am_tbl Ls xs 42 20 = some (o_iret) := (m_42 20).trans rfl
theorem t_42_21 {Ls : Nat} {xs : Nat → Int32} : am_tbl Ls xs 42 21 = some (o_aload 0 1) := (m_42 21).trans rfl
theorem t_42_22 {Ls : Nat} {xs : Nat → Int32} : am_tbl Ls xs 42 22 = some (o_get 9 2) := (m_42 22).trans rfl
theorem t_42_25 {Ls : Nat} {xs : Nat → Int32} : am_tbl Ls xs 42 25 = some (o_aload 0 1) := (m_42 25).trans rfl
theorem t_42_26 {Ls : Nat} {xs : Nat → Int32} : am_tbl Ls xs 42 26 = some (o_get 9 0) := (m_42 26).trans rfl
theorem t_42_29 {Ls : Nat} {xs : Nat → Int32} : am_tbl Ls xs 42 29 = some (o_iload 3 1) := (m_42 29).trans rfl
theorem t_42_30 {Ls : Nat} {xs : Nat → Int32} : am_tbl Ls xs 42 30 = some (o_ibin (fun x y => x * y)) := (m_42 30).trans rfl
theorem t_42_31 {Ls : Nat} {xs : Nat → Int32} : am_tbl Ls xs 42 31 = some (o_iload 2 1) := (m_42 31).trans rfl
theorem t_42_32 {Ls : Nat} {xs : Nat → Int32} : am_tbl Ls xs 42 32 = some (o_ibin (fun x y => x + y)) := (m_42 32).trans rfl
theorem t_42_33 {Ls : Nat} {xs : Nat → Int32} : am_tbl Ls xs 42 33 = some (o_iald 1) := (m_42 33).trans rfl
theorem t_42_34 {Ls : Nat} {xs : Nat → Int32} : am_tbl Ls xs 42 34 = some (o_if (fun x => decide (x ≤ 0)) 41) := (m_42 34).trans rfl
theorem t_42_37 {Ls : Nat} {xs : Nat → Int32} : am_tbl Ls xs 42 37 = some (o_push (.int (-1000000003)) 3) := (m_42 37).trans rfl
theorem t_42_40 {Ls : Nat} {xs : Nat → Int32} : am_tbl Ls xs 42 40 = some (o_iret) := (m_42 40).trans rfl
theorem t_42_41 {Ls : Nat} {xs : Nat → Int32} : am_tbl Ls xs 42 41 = some (o_aload 0 1) := (m_42 41).trans rfl
theorem t_42_42 {Ls : Nat} {xs : Nat → Int32} : am_tbl Ls xs 42 42 = some (o_aload 0 1) := (m_42 42).trans rfl
theorem t_42_43 {Ls : Nat} {xs : Nat → Int32} : am_tbl Ls xs 42 43 = some (o_get 9 9) := (m_42 43).trans rfl
theorem t_42_46 {Ls : Nat} {xs : Nat → Int32} : am_tbl Ls xs 42 46 = some (o_iload 1 1) := (m_42 46).trans rfl
theorem t_42_47 {Ls : Nat} {xs : Nat → Int32} : am_tbl Ls xs 42 47 = some (o_iald 1) := (m_42 47).trans rfl
theorem t_42_48 {Ls : Nat} {xs : Nat → Int32} : am_tbl Ls xs 42 48 = some (o_callv 8 1 9 2) := (m_42 48).trans rfl
theorem t_42_51 {Ls : Nat} {xs : Nat → Int32} : am_tbl Ls xs 42 51 = some (o_istore 4 2) := (m_42 51).trans rfl
theorem t_42_53 {Ls : Nat} {xs : Nat → Int32} : am_tbl Ls xs 42 53 = some (o_aload 0 1) := (m_42 53).trans rfl
theorem t_42_54 {Ls : Nat} {xs : Nat → Int32} : am_tbl Ls xs 42 54 = some (o_get 9 9) := (m_42 54).trans rfl
theorem t_42_57 {Ls : Nat} {xs : Nat → Int32} : am_tbl Ls xs 42 57 = some (o_iload 1 1) := (m_42 57).trans rfl
theorem t_42_58 {Ls : Nat} {xs : Nat → Int32} : am_tbl Ls xs 42 58 = some (o_aload 0 1) := (m_42 58).trans rfl
theorem t_42_59 {Ls : Nat} {xs : Nat → Int32} : am_tbl Ls xs 42 59 = some (o_get 9 0) := (m_42 59).trans rfl
theorem t_42_62 {Ls : Nat} {xs : Nat → Int32} : am_tbl Ls xs 42 62 = some (o_iload 3 1) := (m_42 62).trans rfl
theorem t_42_63 {Ls : Nat} {xs : Nat → Int32} : am_tbl Ls xs 42 63 = some (o_ibin (fun x y => x * y)) := (m_42 63).trans rfl
theorem t_42_64 {Ls : Nat} {xs : Nat → Int32} : am_tbl Ls xs 42 64 = some (o_iload 2 1) := (m_42 64).trans rfl
theorem t_42_65 {Ls : Nat} {xs : Nat → Int32} : am_tbl Ls xs 42 65 = some (o_ibin (fun x y => x + y)) := (m_42 65).trans rfl
theorem t_42_66 {Ls : Nat} {xs : Nat → Int32} : am_tbl Ls xs 42 66 = some (o_iast 1 (fun x => x)) := (m_42 66).trans rfl
theorem t_42_67 {Ls : Nat} {xs : Nat → Int32} : am_tbl Ls xs 42 67 = some (o_iload 4 2) := (m_42 67).trans rfl
theorem t_42_69 {Ls : Nat} {xs : Nat → Int32} : am_tbl Ls xs 42 69 = some (o_iret) := (m_42 69).trans rfl
theorem m_43 {Ls : Nat} {xs : Nat → Int32} (pc : Nat) : am_tbl Ls xs 43 pc = am_lk (op_X9_fold) pc := rfl
theorem t_43_0 {Ls : Nat} {xs : Nat → Int32} : am_tbl Ls xs 43 0 = some (o_aload 0 1) := (m_43 0).trans rfl
theorem t_43_1 {Ls : Nat} {xs : Nat → Int32} : am_tbl Ls xs 43 1 = some (o_iload 1 1) := (m_43 1).trans rfl
theorem t_43_2 {Ls : Nat} {xs : Nat → Int32} : am_tbl Ls xs 43 2 = some (o_callv 5 1 9 2) := (m_43 2).trans rfl
theorem t_43_5 {Ls : Nat} {xs : Nat → Int32} : am_tbl Ls xs 43 5 = some (o_if (fun x => decide (x ≠ 0)) 12) := (m_43 5).trans rfl
theorem t_43_8 {Ls : Nat} {xs : Nat → Int32} : am_tbl Ls xs 43 8 = some (o_push (.int (-1000000001)) 3) := (m_43 8).trans rfl
theorem t_43_11 {Ls : Nat} {xs : Nat → Int32} : am_tbl Ls xs 43 11 = some (o_iret) := (m_43 11).trans rfl
theorem t_43_12 {Ls : Nat} {xs : Nat → Int32} : am_tbl Ls xs 43 12 = some (o_aload 0 1) := (m_43 12).trans rfl
theorem t_43_13 {Ls : Nat} {xs : Nat → Int32} : am_tbl Ls xs 43 13 = some (o_get 9 11) := (m_43 13).trans rfl
theorem t_43_16 {Ls : Nat} {xs : Nat → Int32} : am_tbl Ls xs 43 16 = some (o_iload 1 1) := (m_43 16).trans rfl
theorem t_43_17 {Ls : Nat} {xs : Nat → Int32} : am_tbl Ls xs 43 17 = some (o_iald 3) := (m_43 17).trans rfl
theorem t_43_18 {Ls : Nat} {xs : Nat → Int32} : am_tbl Ls xs 43 18 = some (o_if (fun x => decide (x = 0)) 25) := (m_43 18).trans rfl
theorem t_43_21 {Ls : Nat} {xs : Nat → Int32} : am_tbl Ls xs 43 21 = some (o_push (.int 1) 1) := (m_43 21).trans rfl
theorem t_43_22 {Ls : Nat} {xs : Nat → Int32} : am_tbl Ls xs 43 22 = some (o_goto 26) := (m_43 22).trans rfl
theorem t_43_25 {Ls : Nat} {xs : Nat → Int32} : am_tbl Ls xs 43 25 = some (o_push (.int 0) 1) := (m_43 25).trans rfl
theorem t_43_26 {Ls : Nat} {xs : Nat → Int32} : am_tbl Ls xs 43 26 = some (o_nrm [0, 1, 2] (o_istore 3 1)) := (m_43 26).trans rfl
theorem t_43_27 {Ls : Nat} {xs : Nat → Int32} : am_tbl Ls xs 43 27 = some (o_aload 0 1) := (m_43 27).trans rfl
theorem t_43_28 {Ls : Nat} {xs : Nat → Int32} : am_tbl Ls xs 43 28 = some (o_get 9 11) := (m_43 28).trans rfl
theorem t_43_31 {Ls : Nat} {xs : Nat → Int32} : am_tbl Ls xs 43 31 = some (o_iload 1 1) := (m_43 31).trans rfl
theorem t_43_32 {Ls : Nat} {xs : Nat → Int32} : am_tbl Ls xs 43 32 = some (o_iload 2 1) := (m_43 32).trans rfl
theorem t_43_33 {Ls : Nat} {xs : Nat → Int32} : am_tbl Ls xs 43 33 = some (o_iast 3 (fun x => vp_nar .boolean x)) := (m_43 33).trans rfl
theorem t_43_34 {Ls : Nat} {xs : Nat → Int32} : am_tbl Ls xs 43 34 = some (o_iload 3 1) := (m_43 34).trans rfl
theorem t_43_35 {Ls : Nat} {xs : Nat → Int32} : am_tbl Ls xs 43 35 = some (o_iret) := (m_43 35).trans rfl
theorem m_44 {Ls : Nat} {xs : Nat → Int32} (pc : Nat) : am_tbl Ls xs 44 pc = am_lk (op_X9_law) pc := rfl
theorem t_44_0 {Ls : Nat} {xs : Nat → Int32} : am_tbl Ls xs 44 0 = some (o_iload 1 1) := (m_44 0).trans rfl
theorem t_44_1 {Ls : Nat} {xs : Nat → Int32} : am_tbl Ls xs 44 1 = some (o_i2l) := (m_44 1).trans rfl
theorem t_44_2 {Ls : Nat} {xs : Nat → Int32} : am_tbl Ls xs 44 2 = some (o_push (.long 0) 1) := (m_44 2).trans rfl
theorem t_44_3 {Ls : Nat} {xs : Nat → Int32} : am_tbl Ls xs 44 3 = some (o_push (.long 1) 1) := (m_44 3).trans rfl
theorem t_44_4 {Ls : Nat} {xs : Nat → Int32} : am_tbl Ls xs 44 4 = some (o_calls 1 3 6) := (m_44 4).trans rfl
theorem t_44_7 {Ls : Nat} {xs : Nat → Int32} : am_tbl Ls xs 44 7 = some (o_if (fun x => decide (x ≠ 0)) 13) := (m_44 7).trans rfl
theorem t_44_10 {Ls : Nat} {xs : Nat → Int32} : am_tbl Ls xs 44 10 = some (o_push (.int (-1000000002)) 2) := (m_44 10).trans rfl
theorem t_44_12 {Ls : Nat} {xs : Nat → Int32} : am_tbl Ls xs 44 12 = some (o_iret) := (m_44 12).trans rfl
theorem t_44_13 {Ls : Nat} {xs : Nat → Int32} : am_tbl Ls xs 44 13 = some (o_aload 0 1) := (m_44 13).trans rfl
theorem t_44_14 {Ls : Nat} {xs : Nat → Int32} : am_tbl Ls xs 44 14 = some (o_get 9 15) := (m_44 14).trans rfl
theorem t_44_17 {Ls : Nat} {xs : Nat → Int32} : am_tbl Ls xs 44 17 = some (o_istore 2 1) := (m_44 17).trans rfl
theorem t_44_18 {Ls : Nat} {xs : Nat → Int32} : am_tbl Ls xs 44 18 = some (o_aload 0 1) := (m_44 18).trans rfl
theorem t_44_19 {Ls : Nat} {xs : Nat → Int32} : am_tbl Ls xs 44 19 = some (o_iload 1 1) := (m_44 19).trans rfl
theorem t_44_20 {Ls : Nat} {xs : Nat → Int32} : am_tbl Ls xs 44 20 = some (o_puti 9 15) := (m_44 20).trans rfl
theorem t_44_23 {Ls : Nat} {xs : Nat → Int32} : am_tbl Ls xs 44 23 = some (o_iload 2 1) := (m_44 23).trans rfl
theorem t_44_24 {Ls : Nat} {xs : Nat → Int32} : am_tbl Ls xs 44 24 = some (o_iret) := (m_44 24).trans rfl
theorem m_45 {Ls : Nat} {xs : Nat → Int32} (pc : Nat) : am_tbl Ls xs 45 pc = am_lk (op_X9_isSomebody) pc := rfl
theorem t_45_0 {Ls : Nat} {xs : Nat → Int32} : am_tbl Ls xs 45 0 = some (o_push (.int 0) 1) := (m_45 0).trans rfl
theorem t_45_1 {Ls : Nat} {xs : Nat → Int32} : am_tbl Ls xs 45 1 = some (o_istore 2 1) := (m_45 1).trans rfl
theorem t_45_2 {Ls : Nat} {xs : Nat → Int32} : am_tbl Ls xs 45 2 = some (o_push (.int 0) 1) := (m_45 2).trans rfl
theorem t_45_3 {Ls : Nat} {xs : Nat → Int32} : am_tbl Ls xs 45 3 = some (o_istore 3 1) := (m_45 3).trans rfl
theorem t_45_4 {Ls : Nat} {xs : Nat → Int32} : am_tbl Ls xs 45 4 = some (o_nrm [0, 1, 2, 3] (o_iload 3 1)) := (m_45 4).trans rfl
theorem t_45_5 {Ls : Nat} {xs : Nat → Int32} : am_tbl Ls xs 45 5 = some (o_aload 0 1) := (m_45 5).trans rfl
theorem t_45_6 {Ls : Nat} {xs : Nat → Int32} : am_tbl Ls xs 45 6 = some (o_get 9 8) := (m_45 6).trans rfl
theorem t_45_9 {Ls : Nat} {xs : Nat → Int32} : am_tbl Ls xs 45 9 = some (o_icmp (fun x y => decide (y ≤ x)) 38) := (m_45 9).trans rfl
theorem t_45_12 {Ls : Nat} {xs : Nat → Int32} : am_tbl Ls xs 45 12 = some (o_iload 2 1) := (m_45 12).trans rfl
theorem t_45_13 {Ls : Nat} {xs : Nat → Int32} : am_tbl Ls xs 45 13 = some (o_if (fun x => decide (x ≠ 0)) 26) := (m_45 13).trans rfl
theorem t_45_16 {Ls : Nat} {xs : Nat → Int32} : am_tbl Ls xs 45 16 = some (o_aload 0 1) := (m_45 16).trans rfl
theorem t_45_17 {Ls : Nat} {xs : Nat → Int32} : am_tbl Ls xs 45 17 = some (o_get 9 9) := (m_45 17).trans rfl
theorem t_45_20 {Ls : Nat} {xs : Nat → Int32} : am_tbl Ls xs 45 20 = some (o_iload 3 1) := (m_45 20).trans rfl
theorem t_45_21 {Ls : Nat} {xs : Nat → Int32} : am_tbl Ls xs 45 21 = some (o_iald 1) := (m_45 21).trans rfl
theorem t_45_22 {Ls : Nat} {xs : Nat → Int32} : am_tbl Ls xs 45 22 = some (o_iload 1 1) := (m_45 22).trans rfl
theorem t_45_23 {Ls : Nat} {xs : Nat → Int32} : am_tbl Ls xs 45 23 = some (o_icmp (fun x y => decide (x ≠ y)) 30) := (m_45 23).trans rfl
theorem t_45_26 {Ls : Nat} {xs : Nat → Int32} : am_tbl Ls xs 45 26 = some (o_nrm [0, 1, 3] (o_push (.int 1) 1)) := (m_45 26).trans rfl
theorem t_45_27 {Ls : Nat} {xs : Nat → Int32} : am_tbl Ls xs 45 27 = some (o_goto 31) := (m_45 27).trans rfl
theorem t_45_30 {Ls : Nat} {xs : Nat → Int32} : am_tbl Ls xs 45 30 = some (o_push (.int 0) 1) := (m_45 30).trans rfl
theorem t_45_31 {Ls : Nat} {xs : Nat → Int32} : am_tbl Ls xs 45 31 = some (o_nrm [0, 1, 3] (o_istore 2 1)) := (m_45 31).trans rfl
theorem t_45_32 {Ls : Nat} {xs : Nat → Int32} : am_tbl Ls xs 45 32 = some (o_iinc 3 1) := (m_45 32).trans rfl
theorem t_45_35 {Ls : Nat} {xs : Nat → Int32} : am_tbl Ls xs 45 35 = some (o_goto 4) := (m_45 35).trans rfl
theorem t_45_38 {Ls : Nat} {xs : Nat → Int32} : am_tbl Ls xs 45 38 = some (o_iload 2 1) := (m_45 38).trans rfl
theorem t_45_39 {Ls : Nat} {xs : Nat → Int32} : am_tbl Ls xs 45 39 = some (o_zret) := (m_45 39).trans rfl
theorem m_46 {Ls : Nat} {xs : Nat → Int32} (pc : Nat) : am_tbl Ls xs 46 pc = am_lk (op_X9_build) pc := rfl
theorem t_46_0 {Ls : Nat} {xs : Nat → Int32} : am_tbl Ls xs 46 0 = some (o_aload 0 1) := (m_46 0).trans rfl
theorem t_46_1 {Ls : Nat} {xs : Nat → Int32} : am_tbl Ls xs 46 1 = some (o_iload 1 1) := (m_46 1).trans rfl
theorem t_46_2 {Ls : Nat} {xs : Nat → Int32} : am_tbl Ls xs 46 2 = some (o_iload 2 1) := (m_46 2).trans rfl
theorem t_46_3 {Ls : Nat} {xs : Nat → Int32} : am_tbl Ls xs 46 3 = some (o_callv 4 2 9 3) := (m_46 3).trans rfl
theorem t_46_6 {Ls : Nat} {xs : Nat → Int32} : am_tbl Ls xs 46 6 = some (o_if (fun x => decide (x ≠ 0)) 13) := (m_46 6).trans rfl
theorem t_46_9 {Ls : Nat} {xs : Nat → Int32} : am_tbl Ls xs 46 9 = some (o_push (.int (-1000000001)) 3) := (m_46 9).trans rfl
theorem t_46_12 {Ls : Nat} {xs : Nat → Int32} : am_tbl Ls xs 46 12 = some (o_iret) := (m_46 12).trans rfl
theorem t_46_13 {Ls : Nat} {xs : Nat → Int32} : am_tbl Ls xs 46 13 = some (o_iload 3 1) := (m_46 13).trans rfl
theorem t_46_14 {Ls : Nat} {xs : Nat → Int32} : am_tbl Ls xs 46 14 = some (o_i2l) := (m_46 14).trans rfl
theorem t_46_15 {Ls : Nat} {xs : Nat → Int32} : am_tbl Ls xs 46 15 = some (o_push (.long 0) 1) := (m_46 15).trans rfl
theorem t_46_16 {Ls : Nat} {xs : Nat → Int32} : am_tbl Ls xs 46 16 = some (o_push (.long 9) 3) := (m_46 16).trans rfl
theorem t_46_19 {Ls : Nat} {xs : Nat → Int32} : am_tbl Ls xs 46 19 = some (o_calls 1 3 6) := (m_46 19).trans rfl
theorem t_46_22 {Ls : Nat} {xs : Nat → Int32} : am_tbl Ls xs 46 22 = some (o_if (fun x => decide (x ≠ 0)) 28) := (m_46 22).trans rfl
theorem t_46_25 {Ls : Nat} {xs : Nat → Int32} : am_tbl Ls xs 46 25 = some (o_push (.int (-1000000002)) 2) := (m_46 25).trans rfl
theorem t_46_27 {Ls : Nat} {xs : Nat → Int32} : am_tbl Ls xs 46 27 = some (o_iret) := (m_46 27).trans rfl
theorem t_46_28 {Ls : Nat} {xs : Nat → Int32} : am_tbl Ls xs 46 28 = some (o_aload 0 1) := (m_46 28).trans rfl
theorem t_46_29 {Ls : Nat} {xs : Nat → Int32} : am_tbl Ls xs 46 29 = some (o_get 9 0) := (m_46 29).trans rfl
theorem t_46_32 {Ls : Nat} {xs : Nat → Int32} : am_tbl Ls xs 46 32 = some (o_iload 2 1) := (m_46 32).trans rfl
theorem t_46_33 {Ls : Nat} {xs : Nat → Int32} : am_tbl Ls xs 46 33 = some (o_ibin (fun x y => x * y)) := (m_46 33).trans rfl
theorem t_46_34 {Ls : Nat} {xs : Nat → Int32} : am_tbl Ls xs 46 34 = some (o_iload 1 1) := (m_46 34).trans rfl
theorem t_46_35 {Ls : Nat} {xs : Nat → Int32} : am_tbl Ls xs 46 35 = some (o_ibin (fun x y => x + y)) := (m_46 35).trans rfl
theorem t_46_36 {Ls : Nat} {xs : Nat → Int32} : am_tbl Ls xs 46 36 = some (o_istore 4 2) := (m_46 36).trans rfl
theorem t_46_38 {Ls : Nat} {xs : Nat → Int32} : am_tbl Ls xs 46 38 = some (o_iload 3 1) := (m_46 38).trans rfl
theorem t_46_39 {Ls : Nat} {xs : Nat → Int32} : am_tbl Ls xs 46 39 = some (o_if (fun x => decide (x ≤ 0)) 55) := (m_46 39).trans rfl
theorem t_46_42 {Ls : Nat} {xs : Nat → Int32} : am_tbl Ls xs 46 42 = some (o_aload 0 1) := (m_46 42).trans rfl
theorem t_46_43 {Ls : Nat} {xs : Nat → Int32} : am_tbl Ls xs 46 43 = some (o_iload 4 2) := (m_46 43).trans rfl
theorem t_46_45 {Ls : Nat} {xs : Nat → Int32} : am_tbl Ls xs 46 45 = some (o_callv 45 1 9 4) := (m_46 45).trans rfl
theorem t_46_48 {Ls : Nat} {xs : Nat → Int32} : am_tbl Ls xs 46 48 = some (o_if (fun x => decide (x = 0)) 55) := (m_46 48).trans rfl
theorem t_46_51 {Ls : Nat} {xs : Nat → Int32} : am_tbl Ls xs 46 51 = some (o_push (.int (-1000000003)) 3) := (m_46 51).trans rfl
theorem t_46_54 {Ls : Nat} {xs : Nat → Int32} : am_tbl Ls xs 46 54 = some (o_iret) := (m_46 54).trans rfl
theorem t_46_55 {Ls : Nat} {xs : Nat → Int32} : am_tbl Ls xs 46 55 = some (o_nrm [0, 3, 4] (o_aload 0 1)) := (m_46 55).trans rfl
theorem t_46_56 {Ls : Nat} {xs : Nat → Int32} : am_tbl Ls xs 46 56 = some (o_get 9 2) := (m_46 56).trans rfl
theorem t_46_59 {Ls : Nat} {xs : Nat → Int32} : am_tbl Ls xs 46 59 = some (o_iload 4 2) := (m_46 59).trans rfl
theorem t_46_61 {Ls : Nat} {xs : Nat → Int32} : am_tbl Ls xs 46 61 = some (o_iald 1) := (m_46 61).trans rfl
theorem t_46_62 {Ls : Nat} {xs : Nat → Int32} : am_tbl Ls xs 46 62 = some (o_istore 5 2) := (m_46 62).trans rfl
theorem t_46_64 {Ls : Nat} {xs : Nat → Int32} : am_tbl Ls xs 46 64 = some (o_aload 0 1) := (m_46 64).trans rfl
theorem t_46_65 {Ls : Nat} {xs : Nat → Int32} : am_tbl Ls xs 46 65 = some (o_get 9 2) := (m_46 65).trans rfl
theorem t_46_68 {Ls : Nat} {xs : Nat → Int32} : am_tbl Ls xs 46 68 = some (o_iload 4 2) := (m_46 68).trans rfl
theorem t_46_70 {Ls : Nat} {xs : Nat → Int32} : am_tbl Ls xs 46 70 = some (o_iload 3 1) := (m_46 70).trans rfl
theorem t_46_71 {Ls : Nat} {xs : Nat → Int32} : am_tbl Ls xs 46 71 = some (o_iast 1 (fun x => x)) := (m_46 71).trans rfl
theorem t_46_72 {Ls : Nat} {xs : Nat → Int32} : am_tbl Ls xs 46 72 = some (o_iload 5 2) := (m_46 72).trans rfl
theorem t_46_74 {Ls : Nat} {xs : Nat → Int32} : am_tbl Ls xs 46 74 = some (o_iret) := (m_46 74).trans rfl
theorem m_47 {Ls : Nat} {xs : Nat → Int32} (pc : Nat) : am_tbl Ls xs 47 pc = am_lk (op_X9_draw) pc := rfl
theorem t_47_0 {Ls : Nat} {xs : Nat → Int32} : am_tbl Ls xs 47 0 = some (o_aload 0 1) := (m_47 0).trans rfl
theorem t_47_1 {Ls : Nat} {xs : Nat → Int32} : am_tbl Ls xs 47 1 = some (o_aload 0 1) := (m_47 1).trans rfl
theorem t_47_2 {Ls : Nat} {xs : Nat → Int32} : am_tbl Ls xs 47 2 = some (o_get 9 16) := (m_47 2).trans rfl
theorem t_47_5 {Ls : Nat} {xs : Nat → Int32} : am_tbl Ls xs 47 5 = some (o_i2l) := (m_47 5).trans rfl
theorem t_47_6 {Ls : Nat} {xs : Nat → Int32} : am_tbl Ls xs 47 6 = some (o_push (.long 1103515245) 3) := (m_47 6).trans rfl
theorem t_47_9 {Ls : Nat} {xs : Nat → Int32} : am_tbl Ls xs 47 9 = some (o_lbin (fun x y => x * y)) := (m_47 9).trans rfl
theorem t_47_10 {Ls : Nat} {xs : Nat → Int32} : am_tbl Ls xs 47 10 = some (o_push (.long 12345) 3) := (m_47 10).trans rfl
theorem t_47_13 {Ls : Nat} {xs : Nat → Int32} : am_tbl Ls xs 47 13 = some (o_lbin (fun x y => x + y)) := (m_47 13).trans rfl
theorem t_47_14 {Ls : Nat} {xs : Nat → Int32} : am_tbl Ls xs 47 14 = some (o_push (.long 2147483648) 3) := (m_47 14).trans rfl
theorem t_47_17 {Ls : Nat} {xs : Nat → Int32} : am_tbl Ls xs 47 17 = some (o_ldv (fun x y => x - x / y * y)) := (m_47 17).trans rfl
theorem t_47_18 {Ls : Nat} {xs : Nat → Int32} : am_tbl Ls xs 47 18 = some (o_l2i) := (m_47 18).trans rfl
theorem t_47_19 {Ls : Nat} {xs : Nat → Int32} : am_tbl Ls xs 47 19 = some (o_puti 9 16) := (m_47 19).trans rfl
theorem t_47_22 {Ls : Nat} {xs : Nat → Int32} : am_tbl Ls xs 47 22 = some (o_aload 0 1) := (m_47 22).trans rfl
theorem t_47_23 {Ls : Nat} {xs : Nat → Int32} : am_tbl Ls xs 47 23 = some (o_get 9 16) := (m_47 23).trans rfl
theorem t_47_26 {Ls : Nat} {xs : Nat → Int32} : am_tbl Ls xs 47 26 = some (o_push (.int 65536) 3) := (m_47 26).trans rfl
theorem t_47_29 {Ls : Nat} {xs : Nat → Int32} : am_tbl Ls xs 47 29 = some (o_idv (fun x y => x / y)) := (m_47 29).trans rfl
theorem t_47_30 {Ls : Nat} {xs : Nat → Int32} : am_tbl Ls xs 47 30 = some (o_iload 1 1) := (m_47 30).trans rfl
theorem t_47_31 {Ls : Nat} {xs : Nat → Int32} : am_tbl Ls xs 47 31 = some (o_idv (fun x y => x - x / y * y)) := (m_47 31).trans rfl
theorem t_47_32 {Ls : Nat} {xs : Nat → Int32} : am_tbl Ls xs 47 32 = some (o_iret) := (m_47 32).trans rfl
theorem m_48 {Ls : Nat} {xs : Nat → Int32} (pc : Nat) : am_tbl Ls xs 48 pc = am_lk (op_X9_sharesTill) pc := rfl
theorem t_48_0 {Ls : Nat} {xs : Nat → Int32} : am_tbl Ls xs 48 0 = some (o_push (.int 0) 1) := (m_48 0).trans rfl
theorem t_48_1 {Ls : Nat} {xs : Nat → Int32} : am_tbl Ls xs 48 1 = some (o_istore 2 1) := (m_48 1).trans rfl
theorem t_48_2 {Ls : Nat} {xs : Nat → Int32} : am_tbl Ls xs 48 2 = some (o_push (.int 0) 1) := (m_48 2).trans rfl
theorem t_48_3 {Ls : Nat} {xs : Nat → Int32} : am_tbl Ls xs 48 3 = some (o_istore 3 1) := (m_48 3).trans rfl
theorem t_48_4 {Ls : Nat} {xs : Nat → Int32} : am_tbl Ls xs 48 4 = some (o_nrm [0, 1, 2, 3] (o_iload 3 1)) := (m_48 4).trans rfl
theorem t_48_5 {Ls : Nat} {xs : Nat → Int32} : am_tbl Ls xs 48 5 = some (o_iload 1 1) := (m_48 5).trans rfl
theorem t_48_6 {Ls : Nat} {xs : Nat → Int32} : am_tbl Ls xs 48 6 = some (o_icmp (fun x y => decide (y ≤ x)) 24) := (m_48 6).trans rfl
theorem t_48_9 {Ls : Nat} {xs : Nat → Int32} : am_tbl Ls xs 48 9 = some (o_iload 2 1) := (m_48 9).trans rfl
theorem t_48_10 {Ls : Nat} {xs : Nat → Int32} : am_tbl Ls xs 48 10 = some (o_aload 0 1) := (m_48 10).trans rfl
theorem t_48_11 {Ls : Nat} {xs : Nat → Int32} : am_tbl Ls xs 48 11 = some (o_get 9 7) := (m_48 11).trans rfl
theorem t_48_14 {Ls : Nat} {xs : Nat → Int32} : am_tbl Ls xs 48 14 = some (o_iload 3 1) := (m_48 14).trans rfl
theorem t_48_15 {Ls : Nat} {xs : Nat → Int32} : am_tbl Ls xs 48 15 = some (o_iald 1) := (m_48 15).trans rfl
theorem t_48_16 {Ls : Nat} {xs : Nat → Int32} : am_tbl Ls xs 48 16 = some (o_ibin (fun x y => x + y)) := (m_48 16).trans rfl
theorem t_48_17 {Ls : Nat} {xs : Nat → Int32} : am_tbl Ls xs 48 17 = some (o_istore 2 1) := (m_48 17).trans rfl
theorem t_48_18 {Ls : Nat} {xs : Nat → Int32} : am_tbl Ls xs 48 18 = some (o_iinc 3 1) := (m_48 18).trans rfl
theorem t_48_21 {Ls : Nat} {xs : Nat → Int32} : am_tbl Ls xs 48 21 = some (o_goto 4) := (m_48 21).trans rfl
theorem t_48_24 {Ls : Nat} {xs : Nat → Int32} : am_tbl Ls xs 48 24 = some (o_iload 2 1) := (m_48 24).trans rfl
theorem t_48_25 {Ls : Nat} {xs : Nat → Int32} : am_tbl Ls xs 48 25 = some (o_iret) := (m_48 25).trans rfl
theorem m_49 {Ls : Nat} {xs : Nat → Int32} (pc : Nat) : am_tbl Ls xs 49 pc = am_lk (op_X9_payAt) pc := rfl
theorem t_49_0 {Ls : Nat} {xs : Nat → Int32} : am_tbl Ls xs 49 0 = some (o_push (.int 0) 1) := (m_49 0).trans rfl
theorem t_49_1 {Ls : Nat} {xs : Nat → Int32} : am_tbl Ls xs 49 1 = some (o_istore 2 1) := (m_49 1).trans rfl
theorem t_49_2 {Ls : Nat} {xs : Nat → Int32} : am_tbl Ls xs 49 2 = some (o_nrm [0, 1, 2] (o_iload 2 1)) := (m_49 2).trans rfl
theorem t_49_3 {Ls : Nat} {xs : Nat → Int32} : am_tbl Ls xs 49 3 = some (o_aload 0 1) := (m_49 3).trans rfl
theorem t_49_4 {Ls : Nat} {xs : Nat → Int32} : am_tbl Ls xs 49 4 = some (o_get 9 8) := (m_49 4).trans rfl
theorem t_49_7 {Ls : Nat} {xs : Nat → Int32} : am_tbl Ls xs 49 7 = some (o_icmp (fun x y => decide (y ≤ x)) 28) := (m_49 7).trans rfl
theorem t_49_10 {Ls : Nat} {xs : Nat → Int32} : am_tbl Ls xs 49 10 = some (o_aload 0 1) := (m_49 10).trans rfl
theorem t_49_11 {Ls : Nat} {xs : Nat → Int32} : am_tbl Ls xs 49 11 = some (o_get 9 42) := (m_49 11).trans rfl
theorem t_49_14 {Ls : Nat} {xs : Nat → Int32} : am_tbl Ls xs 49 14 = some (o_iload 2 1) := (m_49 14).trans rfl
theorem t_49_15 {Ls : Nat} {xs : Nat → Int32} : am_tbl Ls xs 49 15 = some (o_aload 0 1) := (m_49 15).trans rfl
theorem t_49_16 {Ls : Nat} {xs : Nat → Int32} : am_tbl Ls xs 49 16 = some (o_iload 2 1) := (m_49 16).trans rfl
theorem t_49_17 {Ls : Nat} {xs : Nat → Int32} : am_tbl Ls xs 49 17 = some (o_iload 1 1) := (m_49 17).trans rfl
theorem t_49_18 {Ls : Nat} {xs : Nat → Int32} : am_tbl Ls xs 49 18 = some (o_callv 32 2 9 8) := (m_49 18).trans rfl
theorem t_49_21 {Ls : Nat} {xs : Nat → Int32} : am_tbl Ls xs 49 21 = some (o_iast 1 (fun x => x)) := (m_49 21).trans rfl
theorem t_49_22 {Ls : Nat} {xs : Nat → Int32} : am_tbl Ls xs 49 22 = some (o_iinc 2 1) := (m_49 22).trans rfl
theorem t_49_25 {Ls : Nat} {xs : Nat → Int32} : am_tbl Ls xs 49 25 = some (o_goto 2) := (m_49 25).trans rfl
theorem t_49_28 {Ls : Nat} {xs : Nat → Int32} : am_tbl Ls xs 49 28 = some (o_push (.int 0) 1) := (m_49 28).trans rfl
theorem t_49_29 {Ls : Nat} {xs : Nat → Int32} : am_tbl Ls xs 49 29 = some (o_istore 2 1) := (m_49 29).trans rfl
theorem t_49_30 {Ls : Nat} {xs : Nat → Int32} : am_tbl Ls xs 49 30 = some (o_nrm [0, 2] (o_iload 2 1)) := (m_49 30).trans rfl
theorem t_49_31 {Ls : Nat} {xs : Nat → Int32} : am_tbl Ls xs 49 31 = some (o_aload 0 1) := (m_49 31).trans rfl
theorem t_49_32 {Ls : Nat} {xs : Nat → Int32} : am_tbl Ls xs 49 32 = some (o_get 9 8) := (m_49 32).trans rfl
theorem t_49_35 {Ls : Nat} {xs : Nat → Int32} : am_tbl Ls xs 49 35 = some (o_icmp (fun x y => decide (y ≤ x)) 74) := (m_49 35).trans rfl
theorem t_49_38 {Ls : Nat} {xs : Nat → Int32} : am_tbl Ls xs 49 38 = some (o_aload 0 1) := (m_49 38).trans rfl
theorem t_49_39 {Ls : Nat} {xs : Nat → Int32} : am_tbl Ls xs 49 39 = some (o_get 9 12) := (m_49 39).trans rfl
theorem t_49_42 {Ls : Nat} {xs : Nat → Int32} : am_tbl Ls xs 49 42 = some (o_iload 2 1) := (m_49 42).trans rfl
theorem t_49_43 {Ls : Nat} {xs : Nat → Int32} : am_tbl Ls xs 49 43 = some (o_dup2) := (m_49 43).trans rfl
theorem t_49_44 {Ls : Nat} {xs : Nat → Int32} : am_tbl Ls xs 49 44 = some (o_iald 1) := (m_49 44).trans rfl
theorem t_49_45 {Ls : Nat} {xs : Nat → Int32} : am_tbl Ls xs 49 45 = some (o_aload 0 1) := (m_49 45).trans rfl
theorem t_49_46 {Ls : Nat} {xs : Nat → Int32} : am_tbl Ls xs 49 46 = some (o_get 9 42) := (m_49 46).trans rfl
theorem t_49_49 {Ls : Nat} {xs : Nat → Int32} : am_tbl Ls xs 49 49 = some (o_iload 2 1) := (m_49 49).trans rfl
theorem t_49_50 {Ls : Nat} {xs : Nat → Int32} : am_tbl Ls xs 49 50 = some (o_iald 1) := (m_49 50).trans rfl
theorem t_49_51 {Ls : Nat} {xs : Nat → Int32} : am_tbl Ls xs 49 51 = some (o_ibin (fun x y => x - y)) := (m_49 51).trans rfl
theorem t_49_52 {Ls : Nat} {xs : Nat → Int32} : am_tbl Ls xs 49 52 = some (o_iast 1 (fun x => x)) := (m_49 52).trans rfl
theorem t_49_53 {Ls : Nat} {xs : Nat → Int32} : am_tbl Ls xs 49 53 = some (o_aload 0 1) := (m_49 53).trans rfl
theorem t_49_54 {Ls : Nat} {xs : Nat → Int32} : am_tbl Ls xs 49 54 = some (o_dup) := (m_49 54).trans rfl
theorem t_49_55 {Ls : Nat} {xs : Nat → Int32} : am_tbl Ls xs 49 55 = some (o_get 9 14) := (m_49 55).trans rfl
theorem t_49_58 {Ls : Nat} {xs : Nat → Int32} : am_tbl Ls xs 49 58 = some (o_aload 0 1) := (m_49 58).trans rfl
theorem t_49_59 {Ls : Nat} {xs : Nat → Int32} : am_tbl Ls xs 49 59 = some (o_get 9 42) := (m_49 59).trans rfl
theorem t_49_62 {Ls : Nat} {xs : Nat → Int32} : am_tbl Ls xs 49 62 = some (o_iload 2 1) := (m_49 62).trans rfl
theorem t_49_63 {Ls : Nat} {xs : Nat → Int32} : am_tbl Ls xs 49 63 = some (o_iald 1) := (m_49 63).trans rfl
theorem t_49_64 {Ls : Nat} {xs : Nat → Int32} : am_tbl Ls xs 49 64 = some (o_ibin (fun x y => x + y)) := (m_49 64).trans rfl
theorem t_49_65 {Ls : Nat} {xs : Nat → Int32} : am_tbl Ls xs 49 65 = some (o_puti 9 14) := (m_49 65).trans rfl
theorem t_49_68 {Ls : Nat} {xs : Nat → Int32} : am_tbl Ls xs 49 68 = some (o_iinc 2 1) := (m_49 68).trans rfl
theorem t_49_71 {Ls : Nat} {xs : Nat → Int32} : am_tbl Ls xs 49 71 = some (o_goto 30) := (m_49 71).trans rfl
theorem t_49_74 {Ls : Nat} {xs : Nat → Int32} : am_tbl Ls xs 49 74 = some (o_vret) := (m_49 74).trans rfl
theorem m_50 {Ls : Nat} {xs : Nat → Int32} (pc : Nat) : am_tbl Ls xs 50 pc = am_lk (op_X9_dayNow) pc := rfl
theorem t_50_0 {Ls : Nat} {xs : Nat → Int32} : am_tbl Ls xs 50 0 = some (o_aload 0 1) := (m_50 0).trans rfl
theorem t_50_1 {Ls : Nat} {xs : Nat → Int32} : am_tbl Ls xs 50 1 = some (o_push (.int 100) 2) := (m_50 1).trans rfl
theorem t_50_3 {Ls : Nat} {xs : Nat → Int32} : am_tbl Ls xs 50 3 = some (o_callv 47 1 9 2) := (m_50 3).trans rfl
theorem t_50_6 {Ls : Nat} {xs : Nat → Int32} : am_tbl Ls xs 50 6 = some (o_aload 0 1) := (m_50 6).trans rfl
theorem t_50_7 {Ls : Nat} {xs : Nat → Int32} : am_tbl Ls xs 50 7 = some (o_get 9 13) := (m_50 7).trans rfl
theorem t_50_10 {Ls : Nat} {xs : Nat → Int32} : am_tbl Ls xs 50 10 = some (o_icmp (fun x y => decide (x < y)) 61) := (m_50 10).trans rfl
theorem t_50_13 {Ls : Nat} {xs : Nat → Int32} : am_tbl Ls xs 50 13 = some (o_aload 0 1) := (m_50 13).trans rfl
theorem t_50_14 {Ls : Nat} {xs : Nat → Int32} : am_tbl Ls xs 50 14 = some (o_aload 0 1) := (m_50 14).trans rfl
theorem t_50_15 {Ls : Nat} {xs : Nat → Int32} : am_tbl Ls xs 50 15 = some (o_get 9 3) := (m_50 15).trans rfl
theorem t_50_18 {Ls : Nat} {xs : Nat → Int32} : am_tbl Ls xs 50 18 = some (o_callv 48 1 9 4) := (m_50 18).trans rfl
theorem t_50_21 {Ls : Nat} {xs : Nat → Int32} : am_tbl Ls xs 50 21 = some (o_if (fun x => decide (x ≤ 0)) 61) := (m_50 21).trans rfl
theorem t_50_24 {Ls : Nat} {xs : Nat → Int32} : am_tbl Ls xs 50 24 = some (o_aload 0 1) := (m_50 24).trans rfl
theorem t_50_25 {Ls : Nat} {xs : Nat → Int32} : am_tbl Ls xs 50 25 = some (o_aload 0 1) := (m_50 25).trans rfl
theorem t_50_26 {Ls : Nat} {xs : Nat → Int32} : am_tbl Ls xs 50 26 = some (o_aload 0 1) := (m_50 26).trans rfl
theorem t_50_27 {Ls : Nat} {xs : Nat → Int32} : am_tbl Ls xs 50 27 = some (o_get 9 3) := (m_50 27).trans rfl
theorem t_50_30 {Ls : Nat} {xs : Nat → Int32} : am_tbl Ls xs 50 30 = some (o_callv 48 1 9 4) := (m_50 30).trans rfl
theorem t_50_33 {Ls : Nat} {xs : Nat → Int32} : am_tbl Ls xs 50 33 = some (o_callv 47 1 9 2) := (m_50 33).trans rfl
theorem t_50_36 {Ls : Nat} {xs : Nat → Int32} : am_tbl Ls xs 50 36 = some (o_istore 1 1) := (m_50 36).trans rfl
theorem t_50_37 {Ls : Nat} {xs : Nat → Int32} : am_tbl Ls xs 50 37 = some (o_push (.int 0) 1) := (m_50 37).trans rfl
theorem t_50_38 {Ls : Nat} {xs : Nat → Int32} : am_tbl Ls xs 50 38 = some (o_istore 2 1) := (m_50 38).trans rfl
theorem t_50_39 {Ls : Nat} {xs : Nat → Int32} : am_tbl Ls xs 50 39 = some (o_nrm [0, 1, 2] (o_aload 0 1)) := (m_50 39).trans rfl
theorem t_50_40 {Ls : Nat} {xs : Nat → Int32} : am_tbl Ls xs 50 40 = some (o_iload 2 1) := (m_50 40).trans rfl
theorem t_50_41 {Ls : Nat} {xs : Nat → Int32} : am_tbl Ls xs 50 41 = some (o_push (.int 1) 1) := (m_50 41).trans rfl
theorem t_50_42 {Ls : Nat} {xs : Nat → Int32} : am_tbl Ls xs 50 42 = some (o_ibin (fun x y => x + y)) := (m_50 42).trans rfl
theorem t_50_43 {Ls : Nat} {xs : Nat → Int32} : am_tbl Ls xs 50 43 = some (o_callv 48 1 9 4) := (m_50 43).trans rfl
theorem t_50_46 {Ls : Nat} {xs : Nat → Int32} : am_tbl Ls xs 50 46 = some (o_iload 1 1) := (m_50 46).trans rfl
theorem t_50_47 {Ls : Nat} {xs : Nat → Int32} : am_tbl Ls xs 50 47 = some (o_icmp (fun x y => decide (y < x)) 56) := (m_50 47).trans rfl
theorem t_50_50 {Ls : Nat} {xs : Nat → Int32} : am_tbl Ls xs 50 50 = some (o_iinc 2 1) := (m_50 50).trans rfl
theorem t_50_53 {Ls : Nat} {xs : Nat → Int32} : am_tbl Ls xs 50 53 = some (o_goto 39) := (m_50 53).trans rfl
theorem t_50_56 {Ls : Nat} {xs : Nat → Int32} : am_tbl Ls xs 50 56 = some (o_aload 0 1) := (m_50 56).trans rfl
theorem t_50_57 {Ls : Nat} {xs : Nat → Int32} : am_tbl Ls xs 50 57 = some (o_iload 2 1) := (m_50 57).trans rfl
theorem t_50_58 {Ls : Nat} {xs : Nat → Int32} : am_tbl Ls xs 50 58 = some (o_callv 49 1 9 3) := (m_50 58).trans rfl
theorem t_50_61 {Ls : Nat} {xs : Nat → Int32} : am_tbl Ls xs 50 61 = some (o_nrm [0] (o_push (.int 0) 1)) := (m_50 61).trans rfl
theorem t_50_62 {Ls : Nat} {xs : Nat → Int32} : am_tbl Ls xs 50 62 = some (o_istore 1 1) := (m_50 62).trans rfl
theorem t_50_63 {Ls : Nat} {xs : Nat → Int32} : am_tbl Ls xs 50 63 = some (o_nrm [0, 1] (o_iload 1 1)) := (m_50 63).trans rfl
theorem t_50_64 {Ls : Nat} {xs : Nat → Int32} : am_tbl Ls xs 50 64 = some (o_aload 0 1) := (m_50 64).trans rfl
theorem t_50_65 {Ls : Nat} {xs : Nat → Int32} : am_tbl Ls xs 50 65 = some (o_get 9 8) := (m_50 65).trans rfl
theorem t_50_68 {Ls : Nat} {xs : Nat → Int32} : am_tbl Ls xs 50 68 = some (o_icmp (fun x y => decide (y ≤ x)) 172) := (m_50 68).trans rfl
theorem t_50_71 {Ls : Nat} {xs : Nat → Int32} : am_tbl Ls xs 50 71 = some (o_aload 0 1) := (m_50 71).trans rfl
theorem t_50_72 {Ls : Nat} {xs : Nat → Int32} : am_tbl Ls xs 50 72 = some (o_push (.int 9) 2) := (m_50 72).trans rfl
theorem t_50_74 {Ls : Nat} {xs : Nat → Int32} : am_tbl Ls xs 50 74 = some (o_callv 47 1 9 2) := (m_50 74).trans rfl
theorem t_50_77 {Ls : Nat} {xs : Nat → Int32} : am_tbl Ls xs 50 77 = some (o_istore 2 1) := (m_50 77).trans rfl
theorem t_50_78 {Ls : Nat} {xs : Nat → Int32} : am_tbl Ls xs 50 78 = some (o_aload 0 1) := (m_50 78).trans rfl
theorem t_50_79 {Ls : Nat} {xs : Nat → Int32} : am_tbl Ls xs 50 79 = some (o_get 9 9) := (m_50 79).trans rfl
theorem t_50_82 {Ls : Nat} {xs : Nat → Int32} : am_tbl Ls xs 50 82 = some (o_iload 1 1) := (m_50 82).trans rfl
theorem t_50_83 {Ls : Nat} {xs : Nat → Int32} : am_tbl Ls xs 50 83 = some (o_iald 1) := (m_50 83).trans rfl
theorem t_50_84 {Ls : Nat} {xs : Nat → Int32} : am_tbl Ls xs 50 84 = some (o_aload 0 1) := (m_50 84).trans rfl
theorem t_50_85 {Ls : Nat} {xs : Nat → Int32} : am_tbl Ls xs 50 85 = some (o_get 9 0) := (m_50 85).trans rfl
theorem t_50_88 {Ls : Nat} {xs : Nat → Int32} : am_tbl Ls xs 50 88 = some (o_idv (fun x y => x - x / y * y)) := (m_50 88).trans rfl
theorem t_50_89 {Ls : Nat} {xs : Nat → Int32} : am_tbl Ls xs 50 89 = some (o_iload 2 1) := (m_50 89).trans rfl
theorem t_50_90 {Ls : Nat} {xs : Nat → Int32} : am_tbl Ls xs 50 90 = some (o_push (.int 3) 1) := (m_50 90).trans rfl
theorem t_50_91 {Ls : Nat} {xs : Nat → Int32} : am_tbl Ls xs 50 91 = some (o_idv (fun x y => x - x / y * y)) := (m_50 91).trans rfl
theorem t_50_92 {Ls : Nat} {xs : Nat → Int32} : am_tbl Ls xs 50 92 = some (o_ibin (fun x y => x + y)) := (m_50 92).trans rfl
theorem t_50_93 {Ls : Nat} {xs : Nat → Int32} : am_tbl Ls xs 50 93 = some (o_push (.int 1) 1) := (m_50 93).trans rfl
theorem t_50_94 {Ls : Nat} {xs : Nat → Int32} : am_tbl Ls xs 50 94 = some (o_ibin (fun x y => x - y)) := (m_50 94).trans rfl
theorem t_50_95 {Ls : Nat} {xs : Nat → Int32} : am_tbl Ls xs 50 95 = some (o_istore 3 1) := (m_50 95).trans rfl
theorem t_50_96 {Ls : Nat} {xs : Nat → Int32} : am_tbl Ls xs 50 96 = some (o_aload 0 1) := (m_50 96).trans rfl
theorem t_50_97 {Ls : Nat} {xs : Nat → Int32} : am_tbl Ls xs 50 97 = some (o_get 9 9) := (m_50 97).trans rfl
theorem t_50_100 {Ls : Nat} {xs : Nat → Int32} : am_tbl Ls xs 50 100 = some (o_iload 1 1) := (m_50 100).trans rfl
theorem t_50_101 {Ls : Nat} {xs : Nat → Int32} : am_tbl Ls xs 50 101 = some (o_iald 1) := (m_50 101).trans rfl
theorem t_50_102 {Ls : Nat} {xs : Nat → Int32} : am_tbl Ls xs 50 102 = some (o_aload 0 1) := (m_50 102).trans rfl
set_option maxRecDepth 20000 in
theorem t_50_103 {Ls : Nat} {xs : Nat → Int32} : am_tbl Ls xs 50 103 = some (o_get 9 0) := (m_50 103).trans rfl
set_option maxRecDepth 20000 in
theorem t_50_106 {Ls : Nat} {xs : Nat → Int32} : am_tbl Ls xs 50 106 = some (o_idv (fun x y => x / y)) := (m_50 106).trans rfl
set_option maxRecDepth 20000 in
theorem t_50_107 {Ls : Nat} {xs : Nat → Int32} : am_tbl Ls xs 50 107 = some (o_iload 2 1) := (m_50 107).trans rfl
set_option maxRecDepth 20000 in
theorem t_50_108 {Ls : Nat} {xs : Nat → Int32} : am_tbl Ls xs 50 108 = some (o_push (.int 3) 1) := (m_50 108).trans rfl
set_option maxRecDepth 20000 in
theorem t_50_109 {Ls : Nat} {xs : Nat → Int32} : am_tbl Ls xs 50 109 = some (o_idv (fun x y => x / y)) := (m_50 109).trans rfl
set_option maxRecDepth 20000 in
theorem t_50_110 {Ls : Nat} {xs : Nat → Int32} : am_tbl Ls xs 50 110 = some (o_ibin (fun x y => x + y)) := (m_50 110).trans rfl
set_option maxRecDepth 20000 in
theorem t_50_111 {Ls : Nat} {xs : Nat → Int32} : am_tbl Ls xs 50 111 = some (o_push (.int 1) 1) := (m_50 111).trans rfl
set_option maxRecDepth 20000 in
theorem t_50_112 {Ls : Nat} {xs : Nat → Int32} : am_tbl Ls xs 50 112 = some (o_ibin (fun x y => x - y)) := (m_50 112).trans rfl
set_option maxRecDepth 20000 in
theorem t_50_113 {Ls : Nat} {xs : Nat → Int32} : am_tbl Ls xs 50 113 = some (o_istore 4 2) := (m_50 113).trans rfl
set_option maxRecDepth 20000 in
theorem t_50_115 {Ls : Nat} {xs : Nat → Int32} : am_tbl Ls xs 50 115 = some (o_aload 0 1) := (m_50 115).trans rfl
set_option maxRecDepth 20000 in
theorem t_50_116 {Ls : Nat} {xs : Nat → Int32} : am_tbl Ls xs 50 116 = some (o_get 9 9) := (m_50 116).trans rfl
set_option maxRecDepth 20000 in
theorem t_50_119 {Ls : Nat} {xs : Nat → Int32} : am_tbl Ls xs 50 119 = some (o_iload 1 1) := (m_50 119).trans rfl
set_option maxRecDepth 20000 in
theorem t_50_120 {Ls : Nat} {xs : Nat → Int32} : am_tbl Ls xs 50 120 = some (o_aload 0 1) := (m_50 120).trans rfl
set_option maxRecDepth 20000 in
theorem t_50_121 {Ls : Nat} {xs : Nat → Int32} : am_tbl Ls xs 50 121 = some (o_iload 3 1) := (m_50 121).trans rfl
set_option maxRecDepth 20000 in
theorem t_50_122 {Ls : Nat} {xs : Nat → Int32} : am_tbl Ls xs 50 122 = some (o_iload 4 2) := (m_50 122).trans rfl
set_option maxRecDepth 20000 in
theorem t_50_124 {Ls : Nat} {xs : Nat → Int32} : am_tbl Ls xs 50 124 = some (o_callv 4 2 9 3) := (m_50 124).trans rfl
set_option maxRecDepth 20000 in
theorem t_50_127 {Ls : Nat} {xs : Nat → Int32} : am_tbl Ls xs 50 127 = some (o_if (fun x => decide (x = 0)) 159) := (m_50 127).trans rfl
set_option maxRecDepth 20000 in
theorem t_50_130 {Ls : Nat} {xs : Nat → Int32} : am_tbl Ls xs 50 130 = some (o_aload 0 1) := (m_50 130).trans rfl
set_option maxRecDepth 20000 in
theorem t_50_131 {Ls : Nat} {xs : Nat → Int32} : am_tbl Ls xs 50 131 = some (o_get 9 2) := (m_50 131).trans rfl
set_option maxRecDepth 20000 in
theorem t_50_134 {Ls : Nat} {xs : Nat → Int32} : am_tbl Ls xs 50 134 = some (o_aload 0 1) := (m_50 134).trans rfl
set_option maxRecDepth 20000 in
theorem t_50_135 {Ls : Nat} {xs : Nat → Int32} : am_tbl Ls xs 50 135 = some (o_get 9 0) := (m_50 135).trans rfl
set_option maxRecDepth 20000 in
theorem t_50_138 {Ls : Nat} {xs : Nat → Int32} : am_tbl Ls xs 50 138 = some (o_iload 4 2) := (m_50 138).trans rfl
set_option maxRecDepth 20000 in
theorem t_50_140 {Ls : Nat} {xs : Nat → Int32} : am_tbl Ls xs 50 140 = some (o_ibin (fun x y => x * y)) := (m_50 140).trans rfl
set_option maxRecDepth 20000 in
theorem t_50_141 {Ls : Nat} {xs : Nat → Int32} : am_tbl Ls xs 50 141 = some (o_iload 3 1) := (m_50 141).trans rfl
set_option maxRecDepth 20000 in
theorem t_50_142 {Ls : Nat} {xs : Nat → Int32} : am_tbl Ls xs 50 142 = some (o_ibin (fun x y => x + y)) := (m_50 142).trans rfl
set_option maxRecDepth 20000 in
theorem t_50_143 {Ls : Nat} {xs : Nat → Int32} : am_tbl Ls xs 50 143 = some (o_iald 1) := (m_50 143).trans rfl
set_option maxRecDepth 20000 in
theorem t_50_144 {Ls : Nat} {xs : Nat → Int32} : am_tbl Ls xs 50 144 = some (o_if (fun x => decide (x ≠ 0)) 159) := (m_50 144).trans rfl
set_option maxRecDepth 20000 in
theorem t_50_147 {Ls : Nat} {xs : Nat → Int32} : am_tbl Ls xs 50 147 = some (o_aload 0 1) := (m_50 147).trans rfl
set_option maxRecDepth 20000 in
theorem t_50_148 {Ls : Nat} {xs : Nat → Int32} : am_tbl Ls xs 50 148 = some (o_get 9 0) := (m_50 148).trans rfl
set_option maxRecDepth 20000 in
theorem t_50_151 {Ls : Nat} {xs : Nat → Int32} : am_tbl Ls xs 50 151 = some (o_iload 4 2) := (m_50 151).trans rfl
set_option maxRecDepth 20000 in
theorem t_50_153 {Ls : Nat} {xs : Nat → Int32} : am_tbl Ls xs 50 153 = some (o_ibin (fun x y => x * y)) := (m_50 153).trans rfl
set_option maxRecDepth 20000 in
theorem t_50_154 {Ls : Nat} {xs : Nat → Int32} : am_tbl Ls xs 50 154 = some (o_iload 3 1) := (m_50 154).trans rfl
set_option maxRecDepth 20000 in
theorem t_50_155 {Ls : Nat} {xs : Nat → Int32} : am_tbl Ls xs 50 155 = some (o_ibin (fun x y => x + y)) := (m_50 155).trans rfl
set_option maxRecDepth 20000 in
theorem t_50_156 {Ls : Nat} {xs : Nat → Int32} : am_tbl Ls xs 50 156 = some (o_goto 165) := (m_50 156).trans rfl
set_option maxRecDepth 20000 in
theorem t_50_159 {Ls : Nat} {xs : Nat → Int32} : am_tbl Ls xs 50 159 = some (o_nrm [0, 1] (o_aload 0 1)) := (m_50 159).trans rfl
set_option maxRecDepth 20000 in
theorem t_50_160 {Ls : Nat} {xs : Nat → Int32} : am_tbl Ls xs 50 160 = some (o_get 9 9) := (m_50 160).trans rfl
set_option maxRecDepth 20000 in
theorem t_50_163 {Ls : Nat} {xs : Nat → Int32} : am_tbl Ls xs 50 163 = some (o_iload 1 1) := (m_50 163).trans rfl
set_option maxRecDepth 20000 in
theorem t_50_164 {Ls : Nat} {xs : Nat → Int32} : am_tbl Ls xs 50 164 = some (o_iald 1) := (m_50 164).trans rfl
set_option maxRecDepth 20000 in
theorem t_50_165 {Ls : Nat} {xs : Nat → Int32} : am_tbl Ls xs 50 165 = some (o_nrm [0, 1] (o_iast 1 (fun x => x))) := (m_50 165).trans rfl
set_option maxRecDepth 20000 in
theorem t_50_166 {Ls : Nat} {xs : Nat → Int32} : am_tbl Ls xs 50 166 = some (o_iinc 1 1) := (m_50 166).trans rfl
set_option maxRecDepth 20000 in
theorem t_50_169 {Ls : Nat} {xs : Nat → Int32} : am_tbl Ls xs 50 169 = some (o_goto 63) := (m_50 169).trans rfl
set_option maxRecDepth 20000 in
theorem t_50_172 {Ls : Nat} {xs : Nat → Int32} : am_tbl Ls xs 50 172 = some (o_vret) := (m_50 172).trans rfl
theorem m_51 {Ls : Nat} {xs : Nat → Int32} (pc : Nat) : am_tbl Ls xs 51 pc = am_lk (op_X9_day) pc := rfl
theorem t_51_0 {Ls : Nat} {xs : Nat → Int32} : am_tbl Ls xs 51 0 = some (o_iload 1 1) := (m_51 0).trans rfl
theorem t_51_1 {Ls : Nat} {xs : Nat → Int32} : am_tbl Ls xs 51 1 = some (o_i2l) := (m_51 1).trans rfl
theorem t_51_2 {Ls : Nat} {xs : Nat → Int32} : am_tbl Ls xs 51 2 = some (o_push (.long 1) 1) := (m_51 2).trans rfl
theorem t_51_3 {Ls : Nat} {xs : Nat → Int32} : am_tbl Ls xs 51 3 = some (o_push (.long 99) 3) := (m_51 3).trans rfl
theorem t_51_6 {Ls : Nat} {xs : Nat → Int32} : am_tbl Ls xs 51 6 = some (o_calls 1 3 6) := (m_51 6).trans rfl
theorem t_51_9 {Ls : Nat} {xs : Nat → Int32} : am_tbl Ls xs 51 9 = some (o_if (fun x => decide (x ≠ 0)) 15) := (m_51 9).trans rfl
theorem t_51_12 {Ls : Nat} {xs : Nat → Int32} : am_tbl Ls xs 51 12 = some (o_push (.int (-1000000002)) 2) := (m_51 12).trans rfl
theorem t_51_14 {Ls : Nat} {xs : Nat → Int32} : am_tbl Ls xs 51 14 = some (o_iret) := (m_51 14).trans rfl
theorem t_51_15 {Ls : Nat} {xs : Nat → Int32} : am_tbl Ls xs 51 15 = some (o_aload 0 1) := (m_51 15).trans rfl
theorem t_51_16 {Ls : Nat} {xs : Nat → Int32} : am_tbl Ls xs 51 16 = some (o_get 9 0) := (m_51 16).trans rfl
theorem t_51_19 {Ls : Nat} {xs : Nat → Int32} : am_tbl Ls xs 51 19 = some (o_if (fun x => decide (x ≠ 0)) 26) := (m_51 19).trans rfl
theorem t_51_22 {Ls : Nat} {xs : Nat → Int32} : am_tbl Ls xs 51 22 = some (o_push (.int (-1000000003)) 3) := (m_51 22).trans rfl
theorem t_51_25 {Ls : Nat} {xs : Nat → Int32} : am_tbl Ls xs 51 25 = some (o_iret) := (m_51 25).trans rfl
theorem t_51_26 {Ls : Nat} {xs : Nat → Int32} : am_tbl Ls xs 51 26 = some (o_push (.int 0) 1) := (m_51 26).trans rfl
theorem t_51_27 {Ls : Nat} {xs : Nat → Int32} : am_tbl Ls xs 51 27 = some (o_istore 2 1) := (m_51 27).trans rfl
theorem t_51_28 {Ls : Nat} {xs : Nat → Int32} : am_tbl Ls xs 51 28 = some (o_nrm [0, 1, 2] (o_iload 2 1)) := (m_51 28).trans rfl
theorem t_51_29 {Ls : Nat} {xs : Nat → Int32} : am_tbl Ls xs 51 29 = some (o_iload 1 1) := (m_51 29).trans rfl
theorem t_51_30 {Ls : Nat} {xs : Nat → Int32} : am_tbl Ls xs 51 30 = some (o_icmp (fun x y => decide (y ≤ x)) 43) := (m_51 30).trans rfl
theorem t_51_33 {Ls : Nat} {xs : Nat → Int32} : am_tbl Ls xs 51 33 = some (o_aload 0 1) := (m_51 33).trans rfl
theorem t_51_34 {Ls : Nat} {xs : Nat → Int32} : am_tbl Ls xs 51 34 = some (o_callv 50 0 9 5) := (m_51 34).trans rfl
theorem t_51_37 {Ls : Nat} {xs : Nat → Int32} : am_tbl Ls xs 51 37 = some (o_iinc 2 1) := (m_51 37).trans rfl
theorem t_51_40 {Ls : Nat} {xs : Nat → Int32} : am_tbl Ls xs 51 40 = some (o_goto 28) := (m_51 40).trans rfl
theorem t_51_43 {Ls : Nat} {xs : Nat → Int32} : am_tbl Ls xs 51 43 = some (o_aload 0 1) := (m_51 43).trans rfl
theorem t_51_44 {Ls : Nat} {xs : Nat → Int32} : am_tbl Ls xs 51 44 = some (o_get 9 14) := (m_51 44).trans rfl
theorem t_51_47 {Ls : Nat} {xs : Nat → Int32} : am_tbl Ls xs 51 47 = some (o_iret) := (m_51 47).trans rfl
theorem m_52 {Ls : Nat} {xs : Nat → Int32} (pc : Nat) : am_tbl Ls xs 52 pc = am_lk (op_X9_best) pc := rfl
theorem t_52_0 {Ls : Nat} {xs : Nat → Int32} : am_tbl Ls xs 52 0 = some (o_aload 0 1) := (m_52 0).trans rfl
theorem t_52_1 {Ls : Nat} {xs : Nat → Int32} : am_tbl Ls xs 52 1 = some (o_iload 1 1) := (m_52 1).trans rfl
theorem t_52_2 {Ls : Nat} {xs : Nat → Int32} : am_tbl Ls xs 52 2 = some (o_callv 5 1 9 2) := (m_52 2).trans rfl
theorem t_52_5 {Ls : Nat} {xs : Nat → Int32} : am_tbl Ls xs 52 5 = some (o_if (fun x => decide (x ≠ 0)) 12) := (m_52 5).trans rfl
theorem t_52_8 {Ls : Nat} {xs : Nat → Int32} : am_tbl Ls xs 52 8 = some (o_push (.int (-1000000001)) 3) := (m_52 8).trans rfl
theorem t_52_11 {Ls : Nat} {xs : Nat → Int32} : am_tbl Ls xs 52 11 = some (o_iret) := (m_52 11).trans rfl
theorem t_52_12 {Ls : Nat} {xs : Nat → Int32} : am_tbl Ls xs 52 12 = some (o_iload 2 1) := (m_52 12).trans rfl
theorem t_52_13 {Ls : Nat} {xs : Nat → Int32} : am_tbl Ls xs 52 13 = some (o_i2l) := (m_52 13).trans rfl
theorem t_52_14 {Ls : Nat} {xs : Nat → Int32} : am_tbl Ls xs 52 14 = some (o_push (.long 0) 1) := (m_52 14).trans rfl
theorem t_52_15 {Ls : Nat} {xs : Nat → Int32} : am_tbl Ls xs 52 15 = some (o_push (.long 1) 1) := (m_52 15).trans rfl
theorem t_52_16 {Ls : Nat} {xs : Nat → Int32} : am_tbl Ls xs 52 16 = some (o_calls 1 3 6) := (m_52 16).trans rfl
theorem t_52_19 {Ls : Nat} {xs : Nat → Int32} : am_tbl Ls xs 52 19 = some (o_if (fun x => decide (x ≠ 0)) 25) := (m_52 19).trans rfl
theorem t_52_22 {Ls : Nat} {xs : Nat → Int32} : am_tbl Ls xs 52 22 = some (o_push (.int (-1000000002)) 2) := (m_52 22).trans rfl
theorem t_52_24 {Ls : Nat} {xs : Nat → Int32} : am_tbl Ls xs 52 24 = some (o_iret) := (m_52 24).trans rfl
theorem t_52_25 {Ls : Nat} {xs : Nat → Int32} : am_tbl Ls xs 52 25 = some (o_aload 0 1) := (m_52 25).trans rfl
theorem t_52_26 {Ls : Nat} {xs : Nat → Int32} : am_tbl Ls xs 52 26 = some (o_get 9 9) := (m_52 26).trans rfl
theorem t_52_29 {Ls : Nat} {xs : Nat → Int32} : am_tbl Ls xs 52 29 = some (o_iload 1 1) := (m_52 29).trans rfl
theorem t_52_30 {Ls : Nat} {xs : Nat → Int32} : am_tbl Ls xs 52 30 = some (o_iald 1) := (m_52 30).trans rfl
theorem t_52_31 {Ls : Nat} {xs : Nat → Int32} : am_tbl Ls xs 52 31 = some (o_istore 3 1) := (m_52 31).trans rfl
theorem t_52_32 {Ls : Nat} {xs : Nat → Int32} : am_tbl Ls xs 52 32 = some (o_push (.int (-1)) 1) := (m_52 32).trans rfl
theorem t_52_33 {Ls : Nat} {xs : Nat → Int32} : am_tbl Ls xs 52 33 = some (o_istore 4 2) := (m_52 33).trans rfl
theorem t_52_35 {Ls : Nat} {xs : Nat → Int32} : am_tbl Ls xs 52 35 = some (o_push (.int 0) 1) := (m_52 35).trans rfl
theorem t_52_36 {Ls : Nat} {xs : Nat → Int32} : am_tbl Ls xs 52 36 = some (o_istore 5 2) := (m_52 36).trans rfl
theorem t_52_38 {Ls : Nat} {xs : Nat → Int32} : am_tbl Ls xs 52 38 = some (o_push (.int 0) 1) := (m_52 38).trans rfl
theorem t_52_39 {Ls : Nat} {xs : Nat → Int32} : am_tbl Ls xs 52 39 = some (o_istore 6 2) := (m_52 39).trans rfl
theorem t_52_41 {Ls : Nat} {xs : Nat → Int32} : am_tbl Ls xs 52 41 = some (o_nrm [0, 1, 2, 3, 4, 5, 6] (o_iload 6 2)) := (m_52 41).trans rfl
theorem t_52_43 {Ls : Nat} {xs : Nat → Int32} : am_tbl Ls xs 52 43 = some (o_aload 0 1) := (m_52 43).trans rfl
theorem t_52_44 {Ls : Nat} {xs : Nat → Int32} : am_tbl Ls xs 52 44 = some (o_callv 7 0 9 1) := (m_52 44).trans rfl
theorem t_52_47 {Ls : Nat} {xs : Nat → Int32} : am_tbl Ls xs 52 47 = some (o_icmp (fun x y => decide (y ≤ x)) 140) := (m_52 47).trans rfl
theorem t_52_50 {Ls : Nat} {xs : Nat → Int32} : am_tbl Ls xs 52 50 = some (o_aload 0 1) := (m_52 50).trans rfl
theorem t_52_51 {Ls : Nat} {xs : Nat → Int32} : am_tbl Ls xs 52 51 = some (o_get 9 2) := (m_52 51).trans rfl
theorem t_52_54 {Ls : Nat} {xs : Nat → Int32} : am_tbl Ls xs 52 54 = some (o_iload 6 2) := (m_52 54).trans rfl
theorem t_52_56 {Ls : Nat} {xs : Nat → Int32} : am_tbl Ls xs 52 56 = some (o_iald 1) := (m_52 56).trans rfl
theorem t_52_57 {Ls : Nat} {xs : Nat → Int32} : am_tbl Ls xs 52 57 = some (o_if (fun x => decide (x ≠ 0)) 134) := (m_52 57).trans rfl
theorem t_52_60 {Ls : Nat} {xs : Nat → Int32} : am_tbl Ls xs 52 60 = some (o_aload 0 1) := (m_52 60).trans rfl
theorem t_52_61 {Ls : Nat} {xs : Nat → Int32} : am_tbl Ls xs 52 61 = some (o_get 9 9) := (m_52 61).trans rfl
theorem t_52_64 {Ls : Nat} {xs : Nat → Int32} : am_tbl Ls xs 52 64 = some (o_iload 1 1) := (m_52 64).trans rfl
theorem t_52_65 {Ls : Nat} {xs : Nat → Int32} : am_tbl Ls xs 52 65 = some (o_iload 6 2) := (m_52 65).trans rfl
theorem t_52_67 {Ls : Nat} {xs : Nat → Int32} : am_tbl Ls xs 52 67 = some (o_iast 1 (fun x => x)) := (m_52 67).trans rfl
theorem t_52_68 {Ls : Nat} {xs : Nat → Int32} : am_tbl Ls xs 52 68 = some (o_iload 2 1) := (m_52 68).trans rfl
theorem t_52_69 {Ls : Nat} {xs : Nat → Int32} : am_tbl Ls xs 52 69 = some (o_if (fun x => decide (x ≠ 0)) 80) := (m_52 69).trans rfl
theorem t_52_72 {Ls : Nat} {xs : Nat → Int32} : am_tbl Ls xs 52 72 = some (o_aload 0 1) := (m_52 72).trans rfl
theorem t_52_73 {Ls : Nat} {xs : Nat → Int32} : am_tbl Ls xs 52 73 = some (o_iload 1 1) := (m_52 73).trans rfl
theorem t_52_74 {Ls : Nat} {xs : Nat → Int32} : am_tbl Ls xs 52 74 = some (o_callv 33 1 9 4) := (m_52 74).trans rfl
theorem t_52_77 {Ls : Nat} {xs : Nat → Int32} : am_tbl Ls xs 52 77 = some (o_goto 85) := (m_52 77).trans rfl
theorem t_52_80 {Ls : Nat} {xs : Nat → Int32} : am_tbl Ls xs 52 80 = some (o_aload 0 1) := (m_52 80).trans rfl
theorem t_52_81 {Ls : Nat} {xs : Nat → Int32} : am_tbl Ls xs 52 81 = some (o_iload 1 1) := (m_52 81).trans rfl
theorem t_52_82 {Ls : Nat} {xs : Nat → Int32} : am_tbl Ls xs 52 82 = some (o_callv 34 1 9 5) := (m_52 82).trans rfl
theorem t_52_85 {Ls : Nat} {xs : Nat → Int32} : am_tbl Ls xs 52 85 = some (o_nrm [0, 1, 2, 3, 4, 5, 6] (o_istore 7 2)) := (m_52 85).trans rfl
theorem t_52_87 {Ls : Nat} {xs : Nat → Int32} : am_tbl Ls xs 52 87 = some (o_iload 4 2) := (m_52 87).trans rfl
theorem t_52_89 {Ls : Nat} {xs : Nat → Int32} : am_tbl Ls xs 52 89 = some (o_if (fun x => decide (x < 0)) 99) := (m_52 89).trans rfl
theorem t_52_92 {Ls : Nat} {xs : Nat → Int32} : am_tbl Ls xs 52 92 = some (o_iload 7 2) := (m_52 92).trans rfl
theorem t_52_94 {Ls : Nat} {xs : Nat → Int32} : am_tbl Ls xs 52 94 = some (o_iload 5 2) := (m_52 94).trans rfl
theorem t_52_96 {Ls : Nat} {xs : Nat → Int32} : am_tbl Ls xs 52 96 = some (o_icmp (fun x y => decide (y ≤ x)) 103) := (m_52 96).trans rfl
theorem t_52_99 {Ls : Nat} {xs : Nat → Int32} : am_tbl Ls xs 52 99 = some (o_nrm [0, 1, 2, 3, 4, 5, 6, 7] (o_push (.int 1) 1)) := (m_52 99).trans rfl
theorem t_52_100 {Ls : Nat} {xs : Nat → Int32} : am_tbl Ls xs 52 100 = some (o_goto 104) := (m_52 100).trans rfl
theorem t_52_103 {Ls : Nat} {xs : Nat → Int32} : am_tbl Ls xs 52 103 = some (o_push (.int 0) 1) := (m_52 103).trans rfl
theorem t_52_104 {Ls : Nat} {xs : Nat → Int32} : am_tbl Ls xs 52 104 = some (o_nrm [0, 1, 2, 3, 4, 5, 6, 7] (o_istore 8 2)) := (m_52 104).trans rfl
theorem t_52_106 {Ls : Nat} {xs : Nat → Int32} : am_tbl Ls xs 52 106 = some (o_iload 8 2) := (m_52 106).trans rfl
theorem t_52_108 {Ls : Nat} {xs : Nat → Int32} : am_tbl Ls xs 52 108 = some (o_if (fun x => decide (x = 0)) 116) := (m_52 108).trans rfl
theorem t_52_111 {Ls : Nat} {xs : Nat → Int32} : am_tbl Ls xs 52 111 = some (o_iload 6 2) := (m_52 111).trans rfl
set_option maxRecDepth 20000 in
theorem t_52_113 {Ls : Nat} {xs : Nat → Int32} : am_tbl Ls xs 52 113 = some (o_goto 118) := (m_52 113).trans rfl
set_option maxRecDepth 20000 in
theorem t_52_116 {Ls : Nat} {xs : Nat → Int32} : am_tbl Ls xs 52 116 = some (o_iload 4 2) := (m_52 116).trans rfl
set_option maxRecDepth 20000 in
theorem t_52_118 {Ls : Nat} {xs : Nat → Int32} : am_tbl Ls xs 52 118 = some (o_nrm [0, 1, 2, 3, 5, 6, 7, 8] (o_istore 4 2)) := (m_52 118).trans rfl
set_option maxRecDepth 20000 in
theorem t_52_120 {Ls : Nat} {xs : Nat → Int32} : am_tbl Ls xs 52 120 = some (o_iload 8 2) := (m_52 120).trans rfl
set_option maxRecDepth 20000 in
theorem t_52_122 {Ls : Nat} {xs : Nat → Int32} : am_tbl Ls xs 52 122 = some (o_if (fun x => decide (x = 0)) 130) := (m_52 122).trans rfl
set_option maxRecDepth 20000 in
theorem t_52_125 {Ls : Nat} {xs : Nat → Int32} : am_tbl Ls xs 52 125 = some (o_iload 7 2) := (m_52 125).trans rfl
set_option maxRecDepth 20000 in
theorem t_52_127 {Ls : Nat} {xs : Nat → Int32} : am_tbl Ls xs 52 127 = some (o_goto 132) := (m_52 127).trans rfl
set_option maxRecDepth 20000 in
theorem t_52_130 {Ls : Nat} {xs : Nat → Int32} : am_tbl Ls xs 52 130 = some (o_iload 5 2) := (m_52 130).trans rfl
set_option maxRecDepth 20000 in
theorem t_52_132 {Ls : Nat} {xs : Nat → Int32} : am_tbl Ls xs 52 132 = some (o_nrm [0, 1, 2, 3, 4, 6] (o_istore 5 2)) := (m_52 132).trans rfl
set_option maxRecDepth 20000 in
theorem t_52_134 {Ls : Nat} {xs : Nat → Int32} : am_tbl Ls xs 52 134 = some (o_nrm [0, 1, 2, 3, 4, 5, 6] (o_iinc 6 1)) := (m_52 134).trans rfl
set_option maxRecDepth 20000 in
theorem t_52_137 {Ls : Nat} {xs : Nat → Int32} : am_tbl Ls xs 52 137 = some (o_goto 41) := (m_52 137).trans rfl
set_option maxRecDepth 20000 in
theorem t_52_140 {Ls : Nat} {xs : Nat → Int32} : am_tbl Ls xs 52 140 = some (o_aload 0 1) := (m_52 140).trans rfl
set_option maxRecDepth 20000 in
theorem t_52_141 {Ls : Nat} {xs : Nat → Int32} : am_tbl Ls xs 52 141 = some (o_get 9 9) := (m_52 141).trans rfl
set_option maxRecDepth 20000 in
theorem t_52_144 {Ls : Nat} {xs : Nat → Int32} : am_tbl Ls xs 52 144 = some (o_iload 1 1) := (m_52 144).trans rfl
set_option maxRecDepth 20000 in
theorem t_52_145 {Ls : Nat} {xs : Nat → Int32} : am_tbl Ls xs 52 145 = some (o_iload 3 1) := (m_52 145).trans rfl
set_option maxRecDepth 20000 in
theorem t_52_146 {Ls : Nat} {xs : Nat → Int32} : am_tbl Ls xs 52 146 = some (o_iast 1 (fun x => x)) := (m_52 146).trans rfl
set_option maxRecDepth 20000 in
theorem t_52_147 {Ls : Nat} {xs : Nat → Int32} : am_tbl Ls xs 52 147 = some (o_aload 0 1) := (m_52 147).trans rfl
set_option maxRecDepth 20000 in
theorem t_52_148 {Ls : Nat} {xs : Nat → Int32} : am_tbl Ls xs 52 148 = some (o_iload 4 2) := (m_52 148).trans rfl
set_option maxRecDepth 20000 in
theorem t_52_150 {Ls : Nat} {xs : Nat → Int32} : am_tbl Ls xs 52 150 = some (o_callv 8 1 9 2) := (m_52 150).trans rfl
set_option maxRecDepth 20000 in
theorem t_52_153 {Ls : Nat} {xs : Nat → Int32} : am_tbl Ls xs 52 153 = some (o_iret) := (m_52 153).trans rfl
theorem m_53 {Ls : Nat} {xs : Nat → Int32} (pc : Nat) : am_tbl Ls xs 53 pc = am_lk (op_X9_errand) pc := rfl
theorem t_53_0 {Ls : Nat} {xs : Nat → Int32} : am_tbl Ls xs 53 0 = some (o_aload 0 1) := (m_53 0).trans rfl
theorem t_53_1 {Ls : Nat} {xs : Nat → Int32} : am_tbl Ls xs 53 1 = some (o_iload 1 1) := (m_53 1).trans rfl
theorem t_53_2 {Ls : Nat} {xs : Nat → Int32} : am_tbl Ls xs 53 2 = some (o_callv 5 1 9 2) := (m_53 2).trans rfl
theorem t_53_5 {Ls : Nat} {xs : Nat → Int32} : am_tbl Ls xs 53 5 = some (o_if (fun x => decide (x = 0)) 26) := (m_53 5).trans rfl
theorem t_53_8 {Ls : Nat} {xs : Nat → Int32} : am_tbl Ls xs 53 8 = some (o_aload 0 1) := (m_53 8).trans rfl
theorem t_53_9 {Ls : Nat} {xs : Nat → Int32} : am_tbl Ls xs 53 9 = some (o_iload 2 1) := (m_53 9).trans rfl
theorem t_53_10 {Ls : Nat} {xs : Nat → Int32} : am_tbl Ls xs 53 10 = some (o_iload 3 1) := (m_53 10).trans rfl
theorem t_53_11 {Ls : Nat} {xs : Nat → Int32} : am_tbl Ls xs 53 11 = some (o_callv 4 2 9 3) := (m_53 11).trans rfl
theorem t_53_14 {Ls : Nat} {xs : Nat → Int32} : am_tbl Ls xs 53 14 = some (o_if (fun x => decide (x = 0)) 26) := (m_53 14).trans rfl
theorem t_53_17 {Ls : Nat} {xs : Nat → Int32} : am_tbl Ls xs 53 17 = some (o_aload 0 1) := (m_53 17).trans rfl
theorem t_53_18 {Ls : Nat} {xs : Nat → Int32} : am_tbl Ls xs 53 18 = some (o_iload 4 2) := (m_53 18).trans rfl
theorem t_53_20 {Ls : Nat} {xs : Nat → Int32} : am_tbl Ls xs 53 20 = some (o_callv 6 1 9 2) := (m_53 20).trans rfl
theorem t_53_23 {Ls : Nat} {xs : Nat → Int32} : am_tbl Ls xs 53 23 = some (o_if (fun x => decide (x ≠ 0)) 30) := (m_53 23).trans rfl
theorem t_53_26 {Ls : Nat} {xs : Nat → Int32} : am_tbl Ls xs 53 26 = some (o_nrm [] (o_push (.int (-1000000001)) 3)) := (m_53 26).trans rfl
theorem t_53_29 {Ls : Nat} {xs : Nat → Int32} : am_tbl Ls xs 53 29 = some (o_iret) := (m_53 29).trans rfl
theorem t_53_30 {Ls : Nat} {xs : Nat → Int32} : am_tbl Ls xs 53 30 = some (o_aload 0 1) := (m_53 30).trans rfl
theorem t_53_31 {Ls : Nat} {xs : Nat → Int32} : am_tbl Ls xs 53 31 = some (o_get 9 43) := (m_53 31).trans rfl
theorem t_53_34 {Ls : Nat} {xs : Nat → Int32} : am_tbl Ls xs 53 34 = some (o_push (.int 10) 2) := (m_53 34).trans rfl
theorem t_53_36 {Ls : Nat} {xs : Nat → Int32} : am_tbl Ls xs 53 36 = some (o_icmp (fun x y => decide (x ≠ y)) 42) := (m_53 36).trans rfl
theorem t_53_39 {Ls : Nat} {xs : Nat → Int32} : am_tbl Ls xs 53 39 = some (o_push (.int (-1000000004)) 2) := (m_53 39).trans rfl
theorem t_53_41 {Ls : Nat} {xs : Nat → Int32} : am_tbl Ls xs 53 41 = some (o_iret) := (m_53 41).trans rfl
theorem t_53_42 {Ls : Nat} {xs : Nat → Int32} : am_tbl Ls xs 53 42 = some (o_aload 0 1) := (m_53 42).trans rfl
theorem t_53_43 {Ls : Nat} {xs : Nat → Int32} : am_tbl Ls xs 53 43 = some (o_get 9 44) := (m_53 43).trans rfl
theorem t_53_46 {Ls : Nat} {xs : Nat → Int32} : am_tbl Ls xs 53 46 = some (o_aload 0 1) := (m_53 46).trans rfl
theorem t_53_47 {Ls : Nat} {xs : Nat → Int32} : am_tbl Ls xs 53 47 = some (o_get 9 43) := (m_53 47).trans rfl
theorem t_53_50 {Ls : Nat} {xs : Nat → Int32} : am_tbl Ls xs 53 50 = some (o_iload 1 1) := (m_53 50).trans rfl
theorem t_53_51 {Ls : Nat} {xs : Nat → Int32} : am_tbl Ls xs 53 51 = some (o_iast 1 (fun x => x)) := (m_53 51).trans rfl
theorem t_53_52 {Ls : Nat} {xs : Nat → Int32} : am_tbl Ls xs 53 52 = some (o_aload 0 1) := (m_53 52).trans rfl
theorem t_53_53 {Ls : Nat} {xs : Nat → Int32} : am_tbl Ls xs 53 53 = some (o_get 9 45) := (m_53 53).trans rfl
theorem t_53_56 {Ls : Nat} {xs : Nat → Int32} : am_tbl Ls xs 53 56 = some (o_aload 0 1) := (m_53 56).trans rfl
theorem t_53_57 {Ls : Nat} {xs : Nat → Int32} : am_tbl Ls xs 53 57 = some (o_get 9 43) := (m_53 57).trans rfl
theorem t_53_60 {Ls : Nat} {xs : Nat → Int32} : am_tbl Ls xs 53 60 = some (o_aload 0 1) := (m_53 60).trans rfl
theorem t_53_61 {Ls : Nat} {xs : Nat → Int32} : am_tbl Ls xs 53 61 = some (o_get 9 0) := (m_53 61).trans rfl
theorem t_53_64 {Ls : Nat} {xs : Nat → Int32} : am_tbl Ls xs 53 64 = some (o_iload 3 1) := (m_53 64).trans rfl
theorem t_53_65 {Ls : Nat} {xs : Nat → Int32} : am_tbl Ls xs 53 65 = some (o_ibin (fun x y => x * y)) := (m_53 65).trans rfl
theorem t_53_66 {Ls : Nat} {xs : Nat → Int32} : am_tbl Ls xs 53 66 = some (o_iload 2 1) := (m_53 66).trans rfl
theorem t_53_67 {Ls : Nat} {xs : Nat → Int32} : am_tbl Ls xs 53 67 = some (o_ibin (fun x y => x + y)) := (m_53 67).trans rfl
theorem t_53_68 {Ls : Nat} {xs : Nat → Int32} : am_tbl Ls xs 53 68 = some (o_iast 1 (fun x => x)) := (m_53 68).trans rfl
theorem t_53_69 {Ls : Nat} {xs : Nat → Int32} : am_tbl Ls xs 53 69 = some (o_aload 0 1) := (m_53 69).trans rfl
theorem t_53_70 {Ls : Nat} {xs : Nat → Int32} : am_tbl Ls xs 53 70 = some (o_get 9 46) := (m_53 70).trans rfl
theorem t_53_73 {Ls : Nat} {xs : Nat → Int32} : am_tbl Ls xs 53 73 = some (o_aload 0 1) := (m_53 73).trans rfl
theorem t_53_74 {Ls : Nat} {xs : Nat → Int32} : am_tbl Ls xs 53 74 = some (o_get 9 43) := (m_53 74).trans rfl
theorem t_53_77 {Ls : Nat} {xs : Nat → Int32} : am_tbl Ls xs 53 77 = some (o_iload 4 2) := (m_53 77).trans rfl
theorem t_53_79 {Ls : Nat} {xs : Nat → Int32} : am_tbl Ls xs 53 79 = some (o_iast 1 (fun x => x)) := (m_53 79).trans rfl
theorem t_53_80 {Ls : Nat} {xs : Nat → Int32} : am_tbl Ls xs 53 80 = some (o_aload 0 1) := (m_53 80).trans rfl
theorem t_53_81 {Ls : Nat} {xs : Nat → Int32} : am_tbl Ls xs 53 81 = some (o_dup) := (m_53 81).trans rfl
theorem t_53_82 {Ls : Nat} {xs : Nat → Int32} : am_tbl Ls xs 53 82 = some (o_get 9 43) := (m_53 82).trans rfl
theorem t_53_85 {Ls : Nat} {xs : Nat → Int32} : am_tbl Ls xs 53 85 = some (o_push (.int 1) 1) := (m_53 85).trans rfl
theorem t_53_86 {Ls : Nat} {xs : Nat → Int32} : am_tbl Ls xs 53 86 = some (o_ibin (fun x y => x + y)) := (m_53 86).trans rfl
theorem t_53_87 {Ls : Nat} {xs : Nat → Int32} : am_tbl Ls xs 53 87 = some (o_puti 9 43) := (m_53 87).trans rfl
theorem t_53_90 {Ls : Nat} {xs : Nat → Int32} : am_tbl Ls xs 53 90 = some (o_aload 0 1) := (m_53 90).trans rfl
theorem t_53_91 {Ls : Nat} {xs : Nat → Int32} : am_tbl Ls xs 53 91 = some (o_get 9 43) := (m_53 91).trans rfl
theorem t_53_94 {Ls : Nat} {xs : Nat → Int32} : am_tbl Ls xs 53 94 = some (o_iret) := (m_53 94).trans rfl
theorem m_54 {Ls : Nat} {xs : Nat → Int32} (pc : Nat) : am_tbl Ls xs 54 pc = am_lk (op_X9_doesErrands) pc := rfl
theorem t_54_0 {Ls : Nat} {xs : Nat → Int32} : am_tbl Ls xs 54 0 = some (o_push (.int 1) 1) := (m_54 0).trans rfl
theorem t_54_1 {Ls : Nat} {xs : Nat → Int32} : am_tbl Ls xs 54 1 = some (o_istore 4 2) := (m_54 1).trans rfl
theorem t_54_3 {Ls : Nat} {xs : Nat → Int32} : am_tbl Ls xs 54 3 = some (o_push (.int 0) 1) := (m_54 3).trans rfl
theorem t_54_4 {Ls : Nat} {xs : Nat → Int32} : am_tbl Ls xs 54 4 = some (o_istore 5 2) := (m_54 4).trans rfl
theorem t_54_6 {Ls : Nat} {xs : Nat → Int32} : am_tbl Ls xs 54 6 = some (o_nrm [0, 1, 2, 3, 4, 5] (o_iload 5 2)) := (m_54 6).trans rfl
theorem t_54_8 {Ls : Nat} {xs : Nat → Int32} : am_tbl Ls xs 54 8 = some (o_aload 0 1) := (m_54 8).trans rfl
theorem t_54_9 {Ls : Nat} {xs : Nat → Int32} : am_tbl Ls xs 54 9 = some (o_get 9 43) := (m_54 9).trans rfl
theorem t_54_12 {Ls : Nat} {xs : Nat → Int32} : am_tbl Ls xs 54 12 = some (o_icmp (fun x y => decide (y ≤ x)) 66) := (m_54 12).trans rfl
theorem t_54_15 {Ls : Nat} {xs : Nat → Int32} : am_tbl Ls xs 54 15 = some (o_iload 4 2) := (m_54 15).trans rfl
theorem t_54_17 {Ls : Nat} {xs : Nat → Int32} : am_tbl Ls xs 54 17 = some (o_if (fun x => decide (x = 0)) 57) := (m_54 17).trans rfl
theorem t_54_20 {Ls : Nat} {xs : Nat → Int32} : am_tbl Ls xs 54 20 = some (o_aload 0 1) := (m_54 20).trans rfl
theorem t_54_21 {Ls : Nat} {xs : Nat → Int32} : am_tbl Ls xs 54 21 = some (o_get 9 44) := (m_54 21).trans rfl
theorem t_54_24 {Ls : Nat} {xs : Nat → Int32} : am_tbl Ls xs 54 24 = some (o_iload 5 2) := (m_54 24).trans rfl
theorem t_54_26 {Ls : Nat} {xs : Nat → Int32} : am_tbl Ls xs 54 26 = some (o_iald 1) := (m_54 26).trans rfl
theorem t_54_27 {Ls : Nat} {xs : Nat → Int32} : am_tbl Ls xs 54 27 = some (o_iload 1 1) := (m_54 27).trans rfl
theorem t_54_28 {Ls : Nat} {xs : Nat → Int32} : am_tbl Ls xs 54 28 = some (o_icmp (fun x y => decide (x ≠ y)) 53) := (m_54 28).trans rfl
theorem t_54_31 {Ls : Nat} {xs : Nat → Int32} : am_tbl Ls xs 54 31 = some (o_aload 0 1) := (m_54 31).trans rfl
theorem t_54_32 {Ls : Nat} {xs : Nat → Int32} : am_tbl Ls xs 54 32 = some (o_get 9 46) := (m_54 32).trans rfl
theorem t_54_35 {Ls : Nat} {xs : Nat → Int32} : am_tbl Ls xs 54 35 = some (o_iload 5 2) := (m_54 35).trans rfl
theorem t_54_37 {Ls : Nat} {xs : Nat → Int32} : am_tbl Ls xs 54 37 = some (o_iald 1) := (m_54 37).trans rfl
theorem t_54_38 {Ls : Nat} {xs : Nat → Int32} : am_tbl Ls xs 54 38 = some (o_iload 3 1) := (m_54 38).trans rfl
theorem t_54_39 {Ls : Nat} {xs : Nat → Int32} : am_tbl Ls xs 54 39 = some (o_icmp (fun x y => decide (x ≠ y)) 53) := (m_54 39).trans rfl
theorem t_54_42 {Ls : Nat} {xs : Nat → Int32} : am_tbl Ls xs 54 42 = some (o_aload 0 1) := (m_54 42).trans rfl
theorem t_54_43 {Ls : Nat} {xs : Nat → Int32} : am_tbl Ls xs 54 43 = some (o_get 9 45) := (m_54 43).trans rfl
theorem t_54_46 {Ls : Nat} {xs : Nat → Int32} : am_tbl Ls xs 54 46 = some (o_iload 5 2) := (m_54 46).trans rfl
theorem t_54_48 {Ls : Nat} {xs : Nat → Int32} : am_tbl Ls xs 54 48 = some (o_iald 1) := (m_54 48).trans rfl
theorem t_54_49 {Ls : Nat} {xs : Nat → Int32} : am_tbl Ls xs 54 49 = some (o_iload 2 1) := (m_54 49).trans rfl
theorem t_54_50 {Ls : Nat} {xs : Nat → Int32} : am_tbl Ls xs 54 50 = some (o_icmp (fun x y => decide (x ≠ y)) 57) := (m_54 50).trans rfl
theorem t_54_53 {Ls : Nat} {xs : Nat → Int32} : am_tbl Ls xs 54 53 = some (o_nrm [0, 1, 2, 3, 5] (o_push (.int 1) 1)) := (m_54 53).trans rfl
theorem t_54_54 {Ls : Nat} {xs : Nat → Int32} : am_tbl Ls xs 54 54 = some (o_goto 58) := (m_54 54).trans rfl
theorem t_54_57 {Ls : Nat} {xs : Nat → Int32} : am_tbl Ls xs 54 57 = some (o_nrm [0, 1, 2, 3, 5] (o_push (.int 0) 1)) := (m_54 57).trans rfl
theorem t_54_58 {Ls : Nat} {xs : Nat → Int32} : am_tbl Ls xs 54 58 = some (o_nrm [0, 1, 2, 3, 5] (o_istore 4 2)) := (m_54 58).trans rfl
theorem t_54_60 {Ls : Nat} {xs : Nat → Int32} : am_tbl Ls xs 54 60 = some (o_iinc 5 1) := (m_54 60).trans rfl
theorem t_54_63 {Ls : Nat} {xs : Nat → Int32} : am_tbl Ls xs 54 63 = some (o_goto 6) := (m_54 63).trans rfl
theorem t_54_66 {Ls : Nat} {xs : Nat → Int32} : am_tbl Ls xs 54 66 = some (o_iload 4 2) := (m_54 66).trans rfl
theorem t_54_68 {Ls : Nat} {xs : Nat → Int32} : am_tbl Ls xs 54 68 = some (o_zret) := (m_54 68).trans rfl
theorem m_55 {Ls : Nat} {xs : Nat → Int32} (pc : Nat) : am_tbl Ls xs 55 pc = am_lk (op_X9_isStep) pc := rfl
theorem t_55_0 {Ls : Nat} {xs : Nat → Int32} : am_tbl Ls xs 55 0 = some (o_iload 1 1) := (m_55 0).trans rfl
theorem t_55_1 {Ls : Nat} {xs : Nat → Int32} : am_tbl Ls xs 55 1 = some (o_aload 0 1) := (m_55 1).trans rfl
theorem t_55_2 {Ls : Nat} {xs : Nat → Int32} : am_tbl Ls xs 55 2 = some (o_get 9 0) := (m_55 2).trans rfl
theorem t_55_5 {Ls : Nat} {xs : Nat → Int32} : am_tbl Ls xs 55 5 = some (o_idv (fun x y => x - x / y * y)) := (m_55 5).trans rfl
theorem t_55_6 {Ls : Nat} {xs : Nat → Int32} : am_tbl Ls xs 55 6 = some (o_iload 2 1) := (m_55 6).trans rfl
theorem t_55_7 {Ls : Nat} {xs : Nat → Int32} : am_tbl Ls xs 55 7 = some (o_aload 0 1) := (m_55 7).trans rfl
theorem t_55_8 {Ls : Nat} {xs : Nat → Int32} : am_tbl Ls xs 55 8 = some (o_get 9 0) := (m_55 8).trans rfl
theorem t_55_11 {Ls : Nat} {xs : Nat → Int32} : am_tbl Ls xs 55 11 = some (o_idv (fun x y => x - x / y * y)) := (m_55 11).trans rfl
theorem t_55_12 {Ls : Nat} {xs : Nat → Int32} : am_tbl Ls xs 55 12 = some (o_ibin (fun x y => x - y)) := (m_55 12).trans rfl
theorem t_55_13 {Ls : Nat} {xs : Nat → Int32} : am_tbl Ls xs 55 13 = some (o_i2l) := (m_55 13).trans rfl
theorem t_55_14 {Ls : Nat} {xs : Nat → Int32} : am_tbl Ls xs 55 14 = some (o_push (.long (-1)) 3) := (m_55 14).trans rfl
theorem t_55_17 {Ls : Nat} {xs : Nat → Int32} : am_tbl Ls xs 55 17 = some (o_push (.long 1) 1) := (m_55 17).trans rfl
theorem t_55_18 {Ls : Nat} {xs : Nat → Int32} : am_tbl Ls xs 55 18 = some (o_calls 1 3 6) := (m_55 18).trans rfl
theorem t_55_21 {Ls : Nat} {xs : Nat → Int32} : am_tbl Ls xs 55 21 = some (o_if (fun x => decide (x = 0)) 52) := (m_55 21).trans rfl
theorem t_55_24 {Ls : Nat} {xs : Nat → Int32} : am_tbl Ls xs 55 24 = some (o_iload 1 1) := (m_55 24).trans rfl
theorem t_55_25 {Ls : Nat} {xs : Nat → Int32} : am_tbl Ls xs 55 25 = some (o_aload 0 1) := (m_55 25).trans rfl
theorem t_55_26 {Ls : Nat} {xs : Nat → Int32} : am_tbl Ls xs 55 26 = some (o_get 9 0) := (m_55 26).trans rfl
theorem t_55_29 {Ls : Nat} {xs : Nat → Int32} : am_tbl Ls xs 55 29 = some (o_idv (fun x y => x / y)) := (m_55 29).trans rfl
theorem t_55_30 {Ls : Nat} {xs : Nat → Int32} : am_tbl Ls xs 55 30 = some (o_iload 2 1) := (m_55 30).trans rfl
theorem t_55_31 {Ls : Nat} {xs : Nat → Int32} : am_tbl Ls xs 55 31 = some (o_aload 0 1) := (m_55 31).trans rfl
theorem t_55_32 {Ls : Nat} {xs : Nat → Int32} : am_tbl Ls xs 55 32 = some (o_get 9 0) := (m_55 32).trans rfl
theorem t_55_35 {Ls : Nat} {xs : Nat → Int32} : am_tbl Ls xs 55 35 = some (o_idv (fun x y => x / y)) := (m_55 35).trans rfl
theorem t_55_36 {Ls : Nat} {xs : Nat → Int32} : am_tbl Ls xs 55 36 = some (o_ibin (fun x y => x - y)) := (m_55 36).trans rfl
theorem t_55_37 {Ls : Nat} {xs : Nat → Int32} : am_tbl Ls xs 55 37 = some (o_i2l) := (m_55 37).trans rfl
theorem t_55_38 {Ls : Nat} {xs : Nat → Int32} : am_tbl Ls xs 55 38 = some (o_push (.long (-1)) 3) := (m_55 38).trans rfl
theorem t_55_41 {Ls : Nat} {xs : Nat → Int32} : am_tbl Ls xs 55 41 = some (o_push (.long 1) 1) := (m_55 41).trans rfl
theorem t_55_42 {Ls : Nat} {xs : Nat → Int32} : am_tbl Ls xs 55 42 = some (o_calls 1 3 6) := (m_55 42).trans rfl
theorem t_55_45 {Ls : Nat} {xs : Nat → Int32} : am_tbl Ls xs 55 45 = some (o_if (fun x => decide (x = 0)) 52) := (m_55 45).trans rfl
theorem t_55_48 {Ls : Nat} {xs : Nat → Int32} : am_tbl Ls xs 55 48 = some (o_push (.int 1) 1) := (m_55 48).trans rfl
theorem t_55_49 {Ls : Nat} {xs : Nat → Int32} : am_tbl Ls xs 55 49 = some (o_goto 53) := (m_55 49).trans rfl
theorem t_55_52 {Ls : Nat} {xs : Nat → Int32} : am_tbl Ls xs 55 52 = some (o_nrm [] (o_push (.int 0) 1)) := (m_55 52).trans rfl
theorem t_55_53 {Ls : Nat} {xs : Nat → Int32} : am_tbl Ls xs 55 53 = some (o_nrm [] (o_zret)) := (m_55 53).trans rfl
theorem m_56 {Ls : Nat} {xs : Nat → Int32} (pc : Nat) : am_tbl Ls xs 56 pc = am_lk (op_X9_findWalk) pc := rfl
theorem t_56_0 {Ls : Nat} {xs : Nat → Int32} : am_tbl Ls xs 56 0 = some (o_aload 0 1) := (m_56 0).trans rfl
theorem t_56_1 {Ls : Nat} {xs : Nat → Int32} : am_tbl Ls xs 56 1 = some (o_get 9 9) := (m_56 1).trans rfl
theorem t_56_4 {Ls : Nat} {xs : Nat → Int32} : am_tbl Ls xs 56 4 = some (o_iload 1 1) := (m_56 4).trans rfl
theorem t_56_5 {Ls : Nat} {xs : Nat → Int32} : am_tbl Ls xs 56 5 = some (o_iald 1) := (m_56 5).trans rfl
theorem t_56_6 {Ls : Nat} {xs : Nat → Int32} : am_tbl Ls xs 56 6 = some (o_istore 2 1) := (m_56 6).trans rfl
theorem t_56_7 {Ls : Nat} {xs : Nat → Int32} : am_tbl Ls xs 56 7 = some (o_push (.int 0) 1) := (m_56 7).trans rfl
theorem t_56_8 {Ls : Nat} {xs : Nat → Int32} : am_tbl Ls xs 56 8 = some (o_istore 3 1) := (m_56 8).trans rfl
theorem t_56_9 {Ls : Nat} {xs : Nat → Int32} : am_tbl Ls xs 56 9 = some (o_nrm [0, 1, 2, 3] (o_iload 3 1)) := (m_56 9).trans rfl
theorem t_56_10 {Ls : Nat} {xs : Nat → Int32} : am_tbl Ls xs 56 10 = some (o_aload 0 1) := (m_56 10).trans rfl
theorem t_56_11 {Ls : Nat} {xs : Nat → Int32} : am_tbl Ls xs 56 11 = some (o_get 9 3) := (m_56 11).trans rfl
theorem t_56_14 {Ls : Nat} {xs : Nat → Int32} : am_tbl Ls xs 56 14 = some (o_icmp (fun x y => decide (y ≤ x)) 101) := (m_56 14).trans rfl
theorem t_56_17 {Ls : Nat} {xs : Nat → Int32} : am_tbl Ls xs 56 17 = some (o_push (.int 0) 1) := (m_56 17).trans rfl
theorem t_56_18 {Ls : Nat} {xs : Nat → Int32} : am_tbl Ls xs 56 18 = some (o_istore 4 2) := (m_56 18).trans rfl
theorem t_56_20 {Ls : Nat} {xs : Nat → Int32} : am_tbl Ls xs 56 20 = some (o_nrm [0, 1, 2, 3, 4] (o_iload 4 2)) := (m_56 20).trans rfl
theorem t_56_22 {Ls : Nat} {xs : Nat → Int32} : am_tbl Ls xs 56 22 = some (o_aload 0 1) := (m_56 22).trans rfl
theorem t_56_23 {Ls : Nat} {xs : Nat → Int32} : am_tbl Ls xs 56 23 = some (o_callv 7 0 9 1) := (m_56 23).trans rfl
theorem t_56_26 {Ls : Nat} {xs : Nat → Int32} : am_tbl Ls xs 56 26 = some (o_icmp (fun x y => decide (y ≤ x)) 95) := (m_56 26).trans rfl
theorem t_56_29 {Ls : Nat} {xs : Nat → Int32} : am_tbl Ls xs 56 29 = some (o_aload 0 1) := (m_56 29).trans rfl
theorem t_56_30 {Ls : Nat} {xs : Nat → Int32} : am_tbl Ls xs 56 30 = some (o_get 9 9) := (m_56 30).trans rfl
theorem t_56_33 {Ls : Nat} {xs : Nat → Int32} : am_tbl Ls xs 56 33 = some (o_iload 1 1) := (m_56 33).trans rfl
theorem t_56_34 {Ls : Nat} {xs : Nat → Int32} : am_tbl Ls xs 56 34 = some (o_iload 4 2) := (m_56 34).trans rfl
theorem t_56_36 {Ls : Nat} {xs : Nat → Int32} : am_tbl Ls xs 56 36 = some (o_iast 1 (fun x => x)) := (m_56 36).trans rfl
theorem t_56_37 {Ls : Nat} {xs : Nat → Int32} : am_tbl Ls xs 56 37 = some (o_aload 0 1) := (m_56 37).trans rfl
theorem t_56_38 {Ls : Nat} {xs : Nat → Int32} : am_tbl Ls xs 56 38 = some (o_get 9 47) := (m_56 38).trans rfl
theorem t_56_41 {Ls : Nat} {xs : Nat → Int32} : am_tbl Ls xs 56 41 = some (o_push (.int 48) 2) := (m_56 41).trans rfl
theorem t_56_43 {Ls : Nat} {xs : Nat → Int32} : am_tbl Ls xs 56 43 = some (o_iload 3 1) := (m_56 43).trans rfl
theorem t_56_44 {Ls : Nat} {xs : Nat → Int32} : am_tbl Ls xs 56 44 = some (o_ibin (fun x y => x * y)) := (m_56 44).trans rfl
theorem t_56_45 {Ls : Nat} {xs : Nat → Int32} : am_tbl Ls xs 56 45 = some (o_iload 4 2) := (m_56 45).trans rfl
theorem t_56_47 {Ls : Nat} {xs : Nat → Int32} : am_tbl Ls xs 56 47 = some (o_ibin (fun x y => x + y)) := (m_56 47).trans rfl
theorem t_56_48 {Ls : Nat} {xs : Nat → Int32} : am_tbl Ls xs 56 48 = some (o_aload 0 1) := (m_56 48).trans rfl
theorem t_56_49 {Ls : Nat} {xs : Nat → Int32} : am_tbl Ls xs 56 49 = some (o_get 9 2) := (m_56 49).trans rfl
theorem t_56_52 {Ls : Nat} {xs : Nat → Int32} : am_tbl Ls xs 56 52 = some (o_iload 4 2) := (m_56 52).trans rfl
theorem t_56_54 {Ls : Nat} {xs : Nat → Int32} : am_tbl Ls xs 56 54 = some (o_iald 1) := (m_56 54).trans rfl
theorem t_56_55 {Ls : Nat} {xs : Nat → Int32} : am_tbl Ls xs 56 55 = some (o_if (fun x => decide (0 < x)) 69) := (m_56 55).trans rfl
theorem t_56_58 {Ls : Nat} {xs : Nat → Int32} : am_tbl Ls xs 56 58 = some (o_aload 0 1) := (m_56 58).trans rfl
theorem t_56_59 {Ls : Nat} {xs : Nat → Int32} : am_tbl Ls xs 56 59 = some (o_iload 1 1) := (m_56 59).trans rfl
theorem t_56_60 {Ls : Nat} {xs : Nat → Int32} : am_tbl Ls xs 56 60 = some (o_iload 4 2) := (m_56 60).trans rfl
theorem t_56_62 {Ls : Nat} {xs : Nat → Int32} : am_tbl Ls xs 56 62 = some (o_iload 3 1) := (m_56 62).trans rfl
theorem t_56_63 {Ls : Nat} {xs : Nat → Int32} : am_tbl Ls xs 56 63 = some (o_callv 54 3 9 6) := (m_56 63).trans rfl
theorem t_56_66 {Ls : Nat} {xs : Nat → Int32} : am_tbl Ls xs 56 66 = some (o_if (fun x => decide (x ≠ 0)) 75) := (m_56 66).trans rfl
theorem t_56_69 {Ls : Nat} {xs : Nat → Int32} : am_tbl Ls xs 56 69 = some (o_nrm [0, 1, 2, 3, 4] (o_push (.int 1000000000) 3)) := (m_56 69).trans rfl
theorem t_56_72 {Ls : Nat} {xs : Nat → Int32} : am_tbl Ls xs 56 72 = some (o_goto 88) := (m_56 72).trans rfl
theorem t_56_75 {Ls : Nat} {xs : Nat → Int32} : am_tbl Ls xs 56 75 = some (o_aload 0 1) := (m_56 75).trans rfl
theorem t_56_76 {Ls : Nat} {xs : Nat → Int32} : am_tbl Ls xs 56 76 = some (o_iload 1 1) := (m_56 76).trans rfl
theorem t_56_77 {Ls : Nat} {xs : Nat → Int32} : am_tbl Ls xs 56 77 = some (o_iload 3 1) := (m_56 77).trans rfl
theorem t_56_78 {Ls : Nat} {xs : Nat → Int32} : am_tbl Ls xs 56 78 = some (o_callv 32 2 9 8) := (m_56 78).trans rfl
theorem t_56_81 {Ls : Nat} {xs : Nat → Int32} : am_tbl Ls xs 56 81 = some (o_aload 0 1) := (m_56 81).trans rfl
theorem t_56_82 {Ls : Nat} {xs : Nat → Int32} : am_tbl Ls xs 56 82 = some (o_get 9 7) := (m_56 82).trans rfl
theorem t_56_85 {Ls : Nat} {xs : Nat → Int32} : am_tbl Ls xs 56 85 = some (o_iload 3 1) := (m_56 85).trans rfl
theorem t_56_86 {Ls : Nat} {xs : Nat → Int32} : am_tbl Ls xs 56 86 = some (o_iald 1) := (m_56 86).trans rfl
theorem t_56_87 {Ls : Nat} {xs : Nat → Int32} : am_tbl Ls xs 56 87 = some (o_ibin (fun x y => x * y)) := (m_56 87).trans rfl
theorem t_56_88 {Ls : Nat} {xs : Nat → Int32} : am_tbl Ls xs 56 88 = some (o_nrm [0, 1, 2, 3, 4] (o_iast 1 (fun x => x))) := (m_56 88).trans rfl
theorem t_56_89 {Ls : Nat} {xs : Nat → Int32} : am_tbl Ls xs 56 89 = some (o_iinc 4 1) := (m_56 89).trans rfl
theorem t_56_92 {Ls : Nat} {xs : Nat → Int32} : am_tbl Ls xs 56 92 = some (o_goto 20) := (m_56 92).trans rfl
theorem t_56_95 {Ls : Nat} {xs : Nat → Int32} : am_tbl Ls xs 56 95 = some (o_iinc 3 1) := (m_56 95).trans rfl
theorem t_56_98 {Ls : Nat} {xs : Nat → Int32} : am_tbl Ls xs 56 98 = some (o_goto 9) := (m_56 98).trans rfl
theorem t_56_101 {Ls : Nat} {xs : Nat → Int32} : am_tbl Ls xs 56 101 = some (o_aload 0 1) := (m_56 101).trans rfl
theorem t_56_102 {Ls : Nat} {xs : Nat → Int32} : am_tbl Ls xs 56 102 = some (o_get 9 9) := (m_56 102).trans rfl
theorem t_56_105 {Ls : Nat} {xs : Nat → Int32} : am_tbl Ls xs 56 105 = some (o_iload 1 1) := (m_56 105).trans rfl
theorem t_56_106 {Ls : Nat} {xs : Nat → Int32} : am_tbl Ls xs 56 106 = some (o_iload 2 1) := (m_56 106).trans rfl
theorem t_56_107 {Ls : Nat} {xs : Nat → Int32} : am_tbl Ls xs 56 107 = some (o_iast 1 (fun x => x)) := (m_56 107).trans rfl
set_option maxRecDepth 20000 in
theorem t_56_108 {Ls : Nat} {xs : Nat → Int32} : am_tbl Ls xs 56 108 = some (o_push (.int 0) 1) := (m_56 108).trans rfl
set_option maxRecDepth 20000 in
theorem t_56_109 {Ls : Nat} {xs : Nat → Int32} : am_tbl Ls xs 56 109 = some (o_istore 3 1) := (m_56 109).trans rfl
set_option maxRecDepth 20000 in
theorem t_56_110 {Ls : Nat} {xs : Nat → Int32} : am_tbl Ls xs 56 110 = some (o_nrm [0, 3] (o_iload 3 1)) := (m_56 110).trans rfl
set_option maxRecDepth 20000 in
theorem t_56_111 {Ls : Nat} {xs : Nat → Int32} : am_tbl Ls xs 56 111 = some (o_aload 0 1) := (m_56 111).trans rfl
set_option maxRecDepth 20000 in
theorem t_56_112 {Ls : Nat} {xs : Nat → Int32} : am_tbl Ls xs 56 112 = some (o_callv 7 0 9 1) := (m_56 112).trans rfl
set_option maxRecDepth 20000 in
theorem t_56_115 {Ls : Nat} {xs : Nat → Int32} : am_tbl Ls xs 56 115 = some (o_icmp (fun x y => decide (y ≤ x)) 139) := (m_56 115).trans rfl
set_option maxRecDepth 20000 in
theorem t_56_118 {Ls : Nat} {xs : Nat → Int32} : am_tbl Ls xs 56 118 = some (o_aload 0 1) := (m_56 118).trans rfl
set_option maxRecDepth 20000 in
theorem t_56_119 {Ls : Nat} {xs : Nat → Int32} : am_tbl Ls xs 56 119 = some (o_get 9 48) := (m_56 119).trans rfl
set_option maxRecDepth 20000 in
theorem t_56_122 {Ls : Nat} {xs : Nat → Int32} : am_tbl Ls xs 56 122 = some (o_push (.int 48) 2) := (m_56 122).trans rfl
set_option maxRecDepth 20000 in
theorem t_56_124 {Ls : Nat} {xs : Nat → Int32} : am_tbl Ls xs 56 124 = some (o_aload 0 1) := (m_56 124).trans rfl
set_option maxRecDepth 20000 in
theorem t_56_125 {Ls : Nat} {xs : Nat → Int32} : am_tbl Ls xs 56 125 = some (o_get 9 3) := (m_56 125).trans rfl
set_option maxRecDepth 20000 in
theorem t_56_128 {Ls : Nat} {xs : Nat → Int32} : am_tbl Ls xs 56 128 = some (o_ibin (fun x y => x * y)) := (m_56 128).trans rfl
set_option maxRecDepth 20000 in
theorem t_56_129 {Ls : Nat} {xs : Nat → Int32} : am_tbl Ls xs 56 129 = some (o_iload 3 1) := (m_56 129).trans rfl
set_option maxRecDepth 20000 in
theorem t_56_130 {Ls : Nat} {xs : Nat → Int32} : am_tbl Ls xs 56 130 = some (o_ibin (fun x y => x + y)) := (m_56 130).trans rfl
set_option maxRecDepth 20000 in
theorem t_56_131 {Ls : Nat} {xs : Nat → Int32} : am_tbl Ls xs 56 131 = some (o_push (.int 0) 1) := (m_56 131).trans rfl
set_option maxRecDepth 20000 in
theorem t_56_132 {Ls : Nat} {xs : Nat → Int32} : am_tbl Ls xs 56 132 = some (o_iast 1 (fun x => x)) := (m_56 132).trans rfl
set_option maxRecDepth 20000 in
theorem t_56_133 {Ls : Nat} {xs : Nat → Int32} : am_tbl Ls xs 56 133 = some (o_iinc 3 1) := (m_56 133).trans rfl
set_option maxRecDepth 20000 in
theorem t_56_136 {Ls : Nat} {xs : Nat → Int32} : am_tbl Ls xs 56 136 = some (o_goto 110) := (m_56 136).trans rfl
set_option maxRecDepth 20000 in
theorem t_56_139 {Ls : Nat} {xs : Nat → Int32} : am_tbl Ls xs 56 139 = some (o_aload 0 1) := (m_56 139).trans rfl
set_option maxRecDepth 20000 in
theorem t_56_140 {Ls : Nat} {xs : Nat → Int32} : am_tbl Ls xs 56 140 = some (o_get 9 3) := (m_56 140).trans rfl
set_option maxRecDepth 20000 in
theorem t_56_143 {Ls : Nat} {xs : Nat → Int32} : am_tbl Ls xs 56 143 = some (o_push (.int 1) 1) := (m_56 143).trans rfl
set_option maxRecDepth 20000 in
theorem t_56_144 {Ls : Nat} {xs : Nat → Int32} : am_tbl Ls xs 56 144 = some (o_ibin (fun x y => x - y)) := (m_56 144).trans rfl
set_option maxRecDepth 20000 in
theorem t_56_145 {Ls : Nat} {xs : Nat → Int32} : am_tbl Ls xs 56 145 = some (o_istore 3 1) := (m_56 145).trans rfl
set_option maxRecDepth 20000 in
theorem t_56_146 {Ls : Nat} {xs : Nat → Int32} : am_tbl Ls xs 56 146 = some (o_nrm [0, 3] (o_iload 3 1)) := (m_56 146).trans rfl
set_option maxRecDepth 20000 in
theorem t_56_147 {Ls : Nat} {xs : Nat → Int32} : am_tbl Ls xs 56 147 = some (o_if (fun x => decide (x < 0)) 307) := (m_56 147).trans rfl
set_option maxRecDepth 20000 in
theorem t_56_150 {Ls : Nat} {xs : Nat → Int32} : am_tbl Ls xs 56 150 = some (o_push (.int 0) 1) := (m_56 150).trans rfl
set_option maxRecDepth 20000 in
theorem t_56_151 {Ls : Nat} {xs : Nat → Int32} : am_tbl Ls xs 56 151 = some (o_istore 4 2) := (m_56 151).trans rfl
set_option maxRecDepth 20000 in
theorem t_56_153 {Ls : Nat} {xs : Nat → Int32} : am_tbl Ls xs 56 153 = some (o_nrm [0, 3, 4] (o_iload 4 2)) := (m_56 153).trans rfl
set_option maxRecDepth 20000 in
theorem t_56_155 {Ls : Nat} {xs : Nat → Int32} : am_tbl Ls xs 56 155 = some (o_aload 0 1) := (m_56 155).trans rfl
set_option maxRecDepth 20000 in
theorem t_56_156 {Ls : Nat} {xs : Nat → Int32} : am_tbl Ls xs 56 156 = some (o_callv 7 0 9 1) := (m_56 156).trans rfl
set_option maxRecDepth 20000 in
theorem t_56_159 {Ls : Nat} {xs : Nat → Int32} : am_tbl Ls xs 56 159 = some (o_icmp (fun x y => decide (y ≤ x)) 301) := (m_56 159).trans rfl
set_option maxRecDepth 20000 in
theorem t_56_162 {Ls : Nat} {xs : Nat → Int32} : am_tbl Ls xs 56 162 = some (o_push (.int 1000000000) 3) := (m_56 162).trans rfl
set_option maxRecDepth 20000 in
theorem t_56_165 {Ls : Nat} {xs : Nat → Int32} : am_tbl Ls xs 56 165 = some (o_istore 5 2) := (m_56 165).trans rfl
set_option maxRecDepth 20000 in
theorem t_56_167 {Ls : Nat} {xs : Nat → Int32} : am_tbl Ls xs 56 167 = some (o_push (.int 0) 1) := (m_56 167).trans rfl
set_option maxRecDepth 20000 in
theorem t_56_168 {Ls : Nat} {xs : Nat → Int32} : am_tbl Ls xs 56 168 = some (o_istore 6 2) := (m_56 168).trans rfl
set_option maxRecDepth 20000 in
theorem t_56_170 {Ls : Nat} {xs : Nat → Int32} : am_tbl Ls xs 56 170 = some (o_nrm [0, 3, 4, 5, 6] (o_iload 6 2)) := (m_56 170).trans rfl
set_option maxRecDepth 20000 in
theorem t_56_172 {Ls : Nat} {xs : Nat → Int32} : am_tbl Ls xs 56 172 = some (o_aload 0 1) := (m_56 172).trans rfl
set_option maxRecDepth 20000 in
theorem t_56_173 {Ls : Nat} {xs : Nat → Int32} : am_tbl Ls xs 56 173 = some (o_callv 7 0 9 1) := (m_56 173).trans rfl
set_option maxRecDepth 20000 in
theorem t_56_176 {Ls : Nat} {xs : Nat → Int32} : am_tbl Ls xs 56 176 = some (o_icmp (fun x y => decide (y ≤ x)) 242) := (m_56 176).trans rfl
set_option maxRecDepth 20000 in
theorem t_56_179 {Ls : Nat} {xs : Nat → Int32} : am_tbl Ls xs 56 179 = some (o_iload 3 1) := (m_56 179).trans rfl
set_option maxRecDepth 20000 in
theorem t_56_180 {Ls : Nat} {xs : Nat → Int32} : am_tbl Ls xs 56 180 = some (o_aload 0 1) := (m_56 180).trans rfl
set_option maxRecDepth 20000 in
theorem t_56_181 {Ls : Nat} {xs : Nat → Int32} : am_tbl Ls xs 56 181 = some (o_get 9 3) := (m_56 181).trans rfl
set_option maxRecDepth 20000 in
theorem t_56_184 {Ls : Nat} {xs : Nat → Int32} : am_tbl Ls xs 56 184 = some (o_push (.int 1) 1) := (m_56 184).trans rfl
set_option maxRecDepth 20000 in
theorem t_56_185 {Ls : Nat} {xs : Nat → Int32} : am_tbl Ls xs 56 185 = some (o_ibin (fun x y => x - y)) := (m_56 185).trans rfl
set_option maxRecDepth 20000 in
theorem t_56_186 {Ls : Nat} {xs : Nat → Int32} : am_tbl Ls xs 56 186 = some (o_icmp (fun x y => decide (x ≠ y)) 193) := (m_56 186).trans rfl
set_option maxRecDepth 20000 in
theorem t_56_189 {Ls : Nat} {xs : Nat → Int32} : am_tbl Ls xs 56 189 = some (o_push (.int 0) 1) := (m_56 189).trans rfl
set_option maxRecDepth 20000 in
theorem t_56_190 {Ls : Nat} {xs : Nat → Int32} : am_tbl Ls xs 56 190 = some (o_goto 207) := (m_56 190).trans rfl
set_option maxRecDepth 20000 in
theorem t_56_193 {Ls : Nat} {xs : Nat → Int32} : am_tbl Ls xs 56 193 = some (o_aload 0 1) := (m_56 193).trans rfl
set_option maxRecDepth 20000 in
theorem t_56_194 {Ls : Nat} {xs : Nat → Int32} : am_tbl Ls xs 56 194 = some (o_get 9 48) := (m_56 194).trans rfl
set_option maxRecDepth 20000 in
theorem t_56_197 {Ls : Nat} {xs : Nat → Int32} : am_tbl Ls xs 56 197 = some (o_push (.int 48) 2) := (m_56 197).trans rfl
set_option maxRecDepth 20000 in
theorem t_56_199 {Ls : Nat} {xs : Nat → Int32} : am_tbl Ls xs 56 199 = some (o_iload 3 1) := (m_56 199).trans rfl
set_option maxRecDepth 20000 in
theorem t_56_200 {Ls : Nat} {xs : Nat → Int32} : am_tbl Ls xs 56 200 = some (o_push (.int 1) 1) := (m_56 200).trans rfl
set_option maxRecDepth 20000 in
theorem t_56_201 {Ls : Nat} {xs : Nat → Int32} : am_tbl Ls xs 56 201 = some (o_ibin (fun x y => x + y)) := (m_56 201).trans rfl
set_option maxRecDepth 20000 in
theorem t_56_202 {Ls : Nat} {xs : Nat → Int32} : am_tbl Ls xs 56 202 = some (o_ibin (fun x y => x * y)) := (m_56 202).trans rfl
set_option maxRecDepth 20000 in
theorem t_56_203 {Ls : Nat} {xs : Nat → Int32} : am_tbl Ls xs 56 203 = some (o_iload 6 2) := (m_56 203).trans rfl
set_option maxRecDepth 20000 in
theorem t_56_205 {Ls : Nat} {xs : Nat → Int32} : am_tbl Ls xs 56 205 = some (o_ibin (fun x y => x + y)) := (m_56 205).trans rfl
set_option maxRecDepth 20000 in
theorem t_56_206 {Ls : Nat} {xs : Nat → Int32} : am_tbl Ls xs 56 206 = some (o_iald 1) := (m_56 206).trans rfl
set_option maxRecDepth 20000 in
theorem t_56_207 {Ls : Nat} {xs : Nat → Int32} : am_tbl Ls xs 56 207 = some (o_nrm [0, 3, 4, 5, 6] (o_istore 7 2)) := (m_56 207).trans rfl
set_option maxRecDepth 20000 in
theorem t_56_209 {Ls : Nat} {xs : Nat → Int32} : am_tbl Ls xs 56 209 = some (o_aload 0 1) := (m_56 209).trans rfl
set_option maxRecDepth 20000 in
theorem t_56_210 {Ls : Nat} {xs : Nat → Int32} : am_tbl Ls xs 56 210 = some (o_iload 4 2) := (m_56 210).trans rfl
set_option maxRecDepth 20000 in
theorem t_56_212 {Ls : Nat} {xs : Nat → Int32} : am_tbl Ls xs 56 212 = some (o_iload 6 2) := (m_56 212).trans rfl
set_option maxRecDepth 20000 in
theorem t_56_214 {Ls : Nat} {xs : Nat → Int32} : am_tbl Ls xs 56 214 = some (o_callv 55 2 9 3) := (m_56 214).trans rfl
set_option maxRecDepth 20000 in
theorem t_56_217 {Ls : Nat} {xs : Nat → Int32} : am_tbl Ls xs 56 217 = some (o_if (fun x => decide (x = 0)) 232) := (m_56 217).trans rfl
set_option maxRecDepth 20000 in
theorem t_56_220 {Ls : Nat} {xs : Nat → Int32} : am_tbl Ls xs 56 220 = some (o_iload 7 2) := (m_56 220).trans rfl
set_option maxRecDepth 20000 in
theorem t_56_222 {Ls : Nat} {xs : Nat → Int32} : am_tbl Ls xs 56 222 = some (o_iload 5 2) := (m_56 222).trans rfl
set_option maxRecDepth 20000 in
theorem t_56_224 {Ls : Nat} {xs : Nat → Int32} : am_tbl Ls xs 56 224 = some (o_icmp (fun x y => decide (y ≤ x)) 232) := (m_56 224).trans rfl
set_option maxRecDepth 20000 in
theorem t_56_227 {Ls : Nat} {xs : Nat → Int32} : am_tbl Ls xs 56 227 = some (o_iload 7 2) := (m_56 227).trans rfl
set_option maxRecDepth 20000 in
theorem t_56_229 {Ls : Nat} {xs : Nat → Int32} : am_tbl Ls xs 56 229 = some (o_goto 234) := (m_56 229).trans rfl
set_option maxRecDepth 20000 in
theorem t_56_232 {Ls : Nat} {xs : Nat → Int32} : am_tbl Ls xs 56 232 = some (o_nrm [0, 3, 4, 5, 6] (o_iload 5 2)) := (m_56 232).trans rfl
set_option maxRecDepth 20000 in
theorem t_56_234 {Ls : Nat} {xs : Nat → Int32} : am_tbl Ls xs 56 234 = some (o_nrm [0, 3, 4, 6] (o_istore 5 2)) := (m_56 234).trans rfl
set_option maxRecDepth 20000 in
theorem t_56_236 {Ls : Nat} {xs : Nat → Int32} : am_tbl Ls xs 56 236 = some (o_iinc 6 1) := (m_56 236).trans rfl
set_option maxRecDepth 20000 in
theorem t_56_239 {Ls : Nat} {xs : Nat → Int32} : am_tbl Ls xs 56 239 = some (o_goto 170) := (m_56 239).trans rfl
set_option maxRecDepth 20000 in
theorem t_56_242 {Ls : Nat} {xs : Nat → Int32} : am_tbl Ls xs 56 242 = some (o_aload 0 1) := (m_56 242).trans rfl
set_option maxRecDepth 20000 in
theorem t_56_243 {Ls : Nat} {xs : Nat → Int32} : am_tbl Ls xs 56 243 = some (o_get 9 47) := (m_56 243).trans rfl
set_option maxRecDepth 20000 in
theorem t_56_246 {Ls : Nat} {xs : Nat → Int32} : am_tbl Ls xs 56 246 = some (o_push (.int 48) 2) := (m_56 246).trans rfl
set_option maxRecDepth 20000 in
theorem t_56_248 {Ls : Nat} {xs : Nat → Int32} : am_tbl Ls xs 56 248 = some (o_iload 3 1) := (m_56 248).trans rfl
set_option maxRecDepth 20000 in
theorem t_56_249 {Ls : Nat} {xs : Nat → Int32} : am_tbl Ls xs 56 249 = some (o_ibin (fun x y => x * y)) := (m_56 249).trans rfl
set_option maxRecDepth 20000 in
theorem t_56_250 {Ls : Nat} {xs : Nat → Int32} : am_tbl Ls xs 56 250 = some (o_iload 4 2) := (m_56 250).trans rfl
set_option maxRecDepth 20000 in
theorem t_56_252 {Ls : Nat} {xs : Nat → Int32} : am_tbl Ls xs 56 252 = some (o_ibin (fun x y => x + y)) := (m_56 252).trans rfl
set_option maxRecDepth 20000 in
theorem t_56_253 {Ls : Nat} {xs : Nat → Int32} : am_tbl Ls xs 56 253 = some (o_iald 1) := (m_56 253).trans rfl
set_option maxRecDepth 20000 in
theorem t_56_254 {Ls : Nat} {xs : Nat → Int32} : am_tbl Ls xs 56 254 = some (o_istore 6 2) := (m_56 254).trans rfl
set_option maxRecDepth 20000 in
theorem t_56_256 {Ls : Nat} {xs : Nat → Int32} : am_tbl Ls xs 56 256 = some (o_aload 0 1) := (m_56 256).trans rfl
set_option maxRecDepth 20000 in
theorem t_56_257 {Ls : Nat} {xs : Nat → Int32} : am_tbl Ls xs 56 257 = some (o_get 9 48) := (m_56 257).trans rfl
set_option maxRecDepth 20000 in
theorem t_56_260 {Ls : Nat} {xs : Nat → Int32} : am_tbl Ls xs 56 260 = some (o_push (.int 48) 2) := (m_56 260).trans rfl
set_option maxRecDepth 20000 in
theorem t_56_262 {Ls : Nat} {xs : Nat → Int32} : am_tbl Ls xs 56 262 = some (o_iload 3 1) := (m_56 262).trans rfl
set_option maxRecDepth 20000 in
theorem t_56_263 {Ls : Nat} {xs : Nat → Int32} : am_tbl Ls xs 56 263 = some (o_ibin (fun x y => x * y)) := (m_56 263).trans rfl
set_option maxRecDepth 20000 in
theorem t_56_264 {Ls : Nat} {xs : Nat → Int32} : am_tbl Ls xs 56 264 = some (o_iload 4 2) := (m_56 264).trans rfl
set_option maxRecDepth 20000 in
theorem t_56_266 {Ls : Nat} {xs : Nat → Int32} : am_tbl Ls xs 56 266 = some (o_ibin (fun x y => x + y)) := (m_56 266).trans rfl
set_option maxRecDepth 20000 in
theorem t_56_267 {Ls : Nat} {xs : Nat → Int32} : am_tbl Ls xs 56 267 = some (o_iload 6 2) := (m_56 267).trans rfl
set_option maxRecDepth 20000 in
theorem t_56_269 {Ls : Nat} {xs : Nat → Int32} : am_tbl Ls xs 56 269 = some (o_push (.int 1000000000) 3) := (m_56 269).trans rfl
set_option maxRecDepth 20000 in
theorem t_56_272 {Ls : Nat} {xs : Nat → Int32} : am_tbl Ls xs 56 272 = some (o_icmp (fun x y => decide (x = y)) 283) := (m_56 272).trans rfl
set_option maxRecDepth 20000 in
theorem t_56_275 {Ls : Nat} {xs : Nat → Int32} : am_tbl Ls xs 56 275 = some (o_iload 5 2) := (m_56 275).trans rfl
set_option maxRecDepth 20000 in
theorem t_56_277 {Ls : Nat} {xs : Nat → Int32} : am_tbl Ls xs 56 277 = some (o_push (.int 1000000000) 3) := (m_56 277).trans rfl
set_option maxRecDepth 20000 in
theorem t_56_280 {Ls : Nat} {xs : Nat → Int32} : am_tbl Ls xs 56 280 = some (o_icmp (fun x y => decide (x ≠ y)) 289) := (m_56 280).trans rfl
set_option maxRecDepth 20000 in
theorem t_56_283 {Ls : Nat} {xs : Nat → Int32} : am_tbl Ls xs 56 283 = some (o_nrm [0, 3, 4] (o_push (.int 1000000000) 3)) := (m_56 283).trans rfl
set_option maxRecDepth 20000 in
theorem t_56_286 {Ls : Nat} {xs : Nat → Int32} : am_tbl Ls xs 56 286 = some (o_goto 294) := (m_56 286).trans rfl
set_option maxRecDepth 20000 in
theorem t_56_289 {Ls : Nat} {xs : Nat → Int32} : am_tbl Ls xs 56 289 = some (o_iload 6 2) := (m_56 289).trans rfl
set_option maxRecDepth 20000 in
theorem t_56_291 {Ls : Nat} {xs : Nat → Int32} : am_tbl Ls xs 56 291 = some (o_iload 5 2) := (m_56 291).trans rfl
set_option maxRecDepth 20000 in
theorem t_56_293 {Ls : Nat} {xs : Nat → Int32} : am_tbl Ls xs 56 293 = some (o_ibin (fun x y => x + y)) := (m_56 293).trans rfl
set_option maxRecDepth 20000 in
theorem t_56_294 {Ls : Nat} {xs : Nat → Int32} : am_tbl Ls xs 56 294 = some (o_nrm [0, 3, 4] (o_iast 1 (fun x => x))) := (m_56 294).trans rfl
set_option maxRecDepth 20000 in
theorem t_56_295 {Ls : Nat} {xs : Nat → Int32} : am_tbl Ls xs 56 295 = some (o_iinc 4 1) := (m_56 295).trans rfl
set_option maxRecDepth 20000 in
theorem t_56_298 {Ls : Nat} {xs : Nat → Int32} : am_tbl Ls xs 56 298 = some (o_goto 153) := (m_56 298).trans rfl
set_option maxRecDepth 20000 in
theorem t_56_301 {Ls : Nat} {xs : Nat → Int32} : am_tbl Ls xs 56 301 = some (o_iinc 3 (-1)) := (m_56 301).trans rfl
set_option maxRecDepth 20000 in
theorem t_56_304 {Ls : Nat} {xs : Nat → Int32} : am_tbl Ls xs 56 304 = some (o_goto 146) := (m_56 304).trans rfl
set_option maxRecDepth 20000 in
theorem t_56_307 {Ls : Nat} {xs : Nat → Int32} : am_tbl Ls xs 56 307 = some (o_vret) := (m_56 307).trans rfl
theorem m_57 {Ls : Nat} {xs : Nat → Int32} (pc : Nat) : am_tbl Ls xs 57 pc = am_lk (op_X9_walk) pc := rfl
theorem t_57_0 {Ls : Nat} {xs : Nat → Int32} : am_tbl Ls xs 57 0 = some (o_aload 0 1) := (m_57 0).trans rfl
theorem t_57_1 {Ls : Nat} {xs : Nat → Int32} : am_tbl Ls xs 57 1 = some (o_iload 1 1) := (m_57 1).trans rfl
theorem t_57_2 {Ls : Nat} {xs : Nat → Int32} : am_tbl Ls xs 57 2 = some (o_callv 5 1 9 2) := (m_57 2).trans rfl
theorem t_57_5 {Ls : Nat} {xs : Nat → Int32} : am_tbl Ls xs 57 5 = some (o_if (fun x => decide (x = 0)) 21) := (m_57 5).trans rfl
theorem t_57_8 {Ls : Nat} {xs : Nat → Int32} : am_tbl Ls xs 57 8 = some (o_iload 2 1) := (m_57 8).trans rfl
theorem t_57_9 {Ls : Nat} {xs : Nat → Int32} : am_tbl Ls xs 57 9 = some (o_push (.int (-1)) 1) := (m_57 9).trans rfl
theorem t_57_10 {Ls : Nat} {xs : Nat → Int32} : am_tbl Ls xs 57 10 = some (o_icmp (fun x y => decide (x = y)) 25) := (m_57 10).trans rfl
theorem t_57_13 {Ls : Nat} {xs : Nat → Int32} : am_tbl Ls xs 57 13 = some (o_aload 0 1) := (m_57 13).trans rfl
theorem t_57_14 {Ls : Nat} {xs : Nat → Int32} : am_tbl Ls xs 57 14 = some (o_iload 2 1) := (m_57 14).trans rfl
theorem t_57_15 {Ls : Nat} {xs : Nat → Int32} : am_tbl Ls xs 57 15 = some (o_callv 6 1 9 2) := (m_57 15).trans rfl
theorem t_57_18 {Ls : Nat} {xs : Nat → Int32} : am_tbl Ls xs 57 18 = some (o_if (fun x => decide (x ≠ 0)) 25) := (m_57 18).trans rfl
theorem t_57_21 {Ls : Nat} {xs : Nat → Int32} : am_tbl Ls xs 57 21 = some (o_nrm [] (o_push (.int (-1000000001)) 3)) := (m_57 21).trans rfl
theorem t_57_24 {Ls : Nat} {xs : Nat → Int32} : am_tbl Ls xs 57 24 = some (o_iret) := (m_57 24).trans rfl
theorem t_57_25 {Ls : Nat} {xs : Nat → Int32} : am_tbl Ls xs 57 25 = some (o_nrm [0, 1, 2] (o_aload 0 1)) := (m_57 25).trans rfl
theorem t_57_26 {Ls : Nat} {xs : Nat → Int32} : am_tbl Ls xs 57 26 = some (o_iload 1 1) := (m_57 26).trans rfl
theorem t_57_27 {Ls : Nat} {xs : Nat → Int32} : am_tbl Ls xs 57 27 = some (o_callv 56 1 9 8) := (m_57 27).trans rfl
theorem t_57_30 {Ls : Nat} {xs : Nat → Int32} : am_tbl Ls xs 57 30 = some (o_aload 0 1) := (m_57 30).trans rfl
theorem t_57_31 {Ls : Nat} {xs : Nat → Int32} : am_tbl Ls xs 57 31 = some (o_get 9 9) := (m_57 31).trans rfl
theorem t_57_34 {Ls : Nat} {xs : Nat → Int32} : am_tbl Ls xs 57 34 = some (o_iload 1 1) := (m_57 34).trans rfl
theorem t_57_35 {Ls : Nat} {xs : Nat → Int32} : am_tbl Ls xs 57 35 = some (o_iald 1) := (m_57 35).trans rfl
theorem t_57_36 {Ls : Nat} {xs : Nat → Int32} : am_tbl Ls xs 57 36 = some (o_istore 3 1) := (m_57 36).trans rfl
theorem t_57_37 {Ls : Nat} {xs : Nat → Int32} : am_tbl Ls xs 57 37 = some (o_aload 0 1) := (m_57 37).trans rfl
theorem t_57_38 {Ls : Nat} {xs : Nat → Int32} : am_tbl Ls xs 57 38 = some (o_get 9 48) := (m_57 38).trans rfl
theorem t_57_41 {Ls : Nat} {xs : Nat → Int32} : am_tbl Ls xs 57 41 = some (o_iload 3 1) := (m_57 41).trans rfl
theorem t_57_42 {Ls : Nat} {xs : Nat → Int32} : am_tbl Ls xs 57 42 = some (o_iald 1) := (m_57 42).trans rfl
theorem t_57_43 {Ls : Nat} {xs : Nat → Int32} : am_tbl Ls xs 57 43 = some (o_istore 4 2) := (m_57 43).trans rfl
theorem t_57_45 {Ls : Nat} {xs : Nat → Int32} : am_tbl Ls xs 57 45 = some (o_iload 4 2) := (m_57 45).trans rfl
theorem t_57_47 {Ls : Nat} {xs : Nat → Int32} : am_tbl Ls xs 57 47 = some (o_push (.int 1000000000) 3) := (m_57 47).trans rfl
theorem t_57_50 {Ls : Nat} {xs : Nat → Int32} : am_tbl Ls xs 57 50 = some (o_icmp (fun x y => decide (x = y)) 58) := (m_57 50).trans rfl
theorem t_57_53 {Ls : Nat} {xs : Nat → Int32} : am_tbl Ls xs 57 53 = some (o_iload 2 1) := (m_57 53).trans rfl
theorem t_57_54 {Ls : Nat} {xs : Nat → Int32} : am_tbl Ls xs 57 54 = some (o_push (.int (-1)) 1) := (m_57 54).trans rfl
theorem t_57_55 {Ls : Nat} {xs : Nat → Int32} : am_tbl Ls xs 57 55 = some (o_icmp (fun x y => decide (x ≠ y)) 73) := (m_57 55).trans rfl
theorem t_57_58 {Ls : Nat} {xs : Nat → Int32} : am_tbl Ls xs 57 58 = some (o_nrm [4] (o_iload 4 2)) := (m_57 58).trans rfl
theorem t_57_60 {Ls : Nat} {xs : Nat → Int32} : am_tbl Ls xs 57 60 = some (o_push (.int 1000000000) 3) := (m_57 60).trans rfl
theorem t_57_63 {Ls : Nat} {xs : Nat → Int32} : am_tbl Ls xs 57 63 = some (o_icmp (fun x y => decide (x ≠ y)) 70) := (m_57 63).trans rfl
theorem t_57_66 {Ls : Nat} {xs : Nat → Int32} : am_tbl Ls xs 57 66 = some (o_push (.int (-1)) 1) := (m_57 66).trans rfl
theorem t_57_67 {Ls : Nat} {xs : Nat → Int32} : am_tbl Ls xs 57 67 = some (o_goto 72) := (m_57 67).trans rfl
theorem t_57_70 {Ls : Nat} {xs : Nat → Int32} : am_tbl Ls xs 57 70 = some (o_iload 4 2) := (m_57 70).trans rfl
theorem t_57_72 {Ls : Nat} {xs : Nat → Int32} : am_tbl Ls xs 57 72 = some (o_nrm [] (o_iret)) := (m_57 72).trans rfl
theorem t_57_73 {Ls : Nat} {xs : Nat → Int32} : am_tbl Ls xs 57 73 = some (o_push (.int 1) 1) := (m_57 73).trans rfl
theorem t_57_74 {Ls : Nat} {xs : Nat → Int32} : am_tbl Ls xs 57 74 = some (o_istore 5 2) := (m_57 74).trans rfl
theorem t_57_76 {Ls : Nat} {xs : Nat → Int32} : am_tbl Ls xs 57 76 = some (o_nrm [0, 2, 3, 5] (o_iload 5 2)) := (m_57 76).trans rfl
theorem t_57_78 {Ls : Nat} {xs : Nat → Int32} : am_tbl Ls xs 57 78 = some (o_iload 2 1) := (m_57 78).trans rfl
theorem t_57_79 {Ls : Nat} {xs : Nat → Int32} : am_tbl Ls xs 57 79 = some (o_icmp (fun x y => decide (y < x)) 159) := (m_57 79).trans rfl
theorem t_57_82 {Ls : Nat} {xs : Nat → Int32} : am_tbl Ls xs 57 82 = some (o_aload 0 1) := (m_57 82).trans rfl
theorem t_57_83 {Ls : Nat} {xs : Nat → Int32} : am_tbl Ls xs 57 83 = some (o_get 9 48) := (m_57 83).trans rfl
theorem t_57_86 {Ls : Nat} {xs : Nat → Int32} : am_tbl Ls xs 57 86 = some (o_push (.int 48) 2) := (m_57 86).trans rfl
theorem t_57_88 {Ls : Nat} {xs : Nat → Int32} : am_tbl Ls xs 57 88 = some (o_iload 5 2) := (m_57 88).trans rfl
theorem t_57_90 {Ls : Nat} {xs : Nat → Int32} : am_tbl Ls xs 57 90 = some (o_push (.int 1) 1) := (m_57 90).trans rfl
theorem t_57_91 {Ls : Nat} {xs : Nat → Int32} : am_tbl Ls xs 57 91 = some (o_ibin (fun x y => x - y)) := (m_57 91).trans rfl
theorem t_57_92 {Ls : Nat} {xs : Nat → Int32} : am_tbl Ls xs 57 92 = some (o_ibin (fun x y => x * y)) := (m_57 92).trans rfl
theorem t_57_93 {Ls : Nat} {xs : Nat → Int32} : am_tbl Ls xs 57 93 = some (o_iload 3 1) := (m_57 93).trans rfl
theorem t_57_94 {Ls : Nat} {xs : Nat → Int32} : am_tbl Ls xs 57 94 = some (o_ibin (fun x y => x + y)) := (m_57 94).trans rfl
theorem t_57_95 {Ls : Nat} {xs : Nat → Int32} : am_tbl Ls xs 57 95 = some (o_iald 1) := (m_57 95).trans rfl
theorem t_57_96 {Ls : Nat} {xs : Nat → Int32} : am_tbl Ls xs 57 96 = some (o_aload 0 1) := (m_57 96).trans rfl
theorem t_57_97 {Ls : Nat} {xs : Nat → Int32} : am_tbl Ls xs 57 97 = some (o_get 9 47) := (m_57 97).trans rfl
theorem t_57_100 {Ls : Nat} {xs : Nat → Int32} : am_tbl Ls xs 57 100 = some (o_push (.int 48) 2) := (m_57 100).trans rfl
theorem t_57_102 {Ls : Nat} {xs : Nat → Int32} : am_tbl Ls xs 57 102 = some (o_iload 5 2) := (m_57 102).trans rfl
theorem t_57_104 {Ls : Nat} {xs : Nat → Int32} : am_tbl Ls xs 57 104 = some (o_push (.int 1) 1) := (m_57 104).trans rfl
theorem t_57_105 {Ls : Nat} {xs : Nat → Int32} : am_tbl Ls xs 57 105 = some (o_ibin (fun x y => x - y)) := (m_57 105).trans rfl
theorem t_57_106 {Ls : Nat} {xs : Nat → Int32} : am_tbl Ls xs 57 106 = some (o_ibin (fun x y => x * y)) := (m_57 106).trans rfl
set_option maxRecDepth 20000 in
theorem t_57_107 {Ls : Nat} {xs : Nat → Int32} : am_tbl Ls xs 57 107 = some (o_iload 3 1) := (m_57 107).trans rfl
set_option maxRecDepth 20000 in
theorem t_57_108 {Ls : Nat} {xs : Nat → Int32} : am_tbl Ls xs 57 108 = some (o_ibin (fun x y => x + y)) := (m_57 108).trans rfl
set_option maxRecDepth 20000 in
theorem t_57_109 {Ls : Nat} {xs : Nat → Int32} : am_tbl Ls xs 57 109 = some (o_iald 1) := (m_57 109).trans rfl
set_option maxRecDepth 20000 in
theorem t_57_110 {Ls : Nat} {xs : Nat → Int32} : am_tbl Ls xs 57 110 = some (o_ibin (fun x y => x - y)) := (m_57 110).trans rfl
set_option maxRecDepth 20000 in
theorem t_57_111 {Ls : Nat} {xs : Nat → Int32} : am_tbl Ls xs 57 111 = some (o_istore 6 2) := (m_57 111).trans rfl
set_option maxRecDepth 20000 in
theorem t_57_113 {Ls : Nat} {xs : Nat → Int32} : am_tbl Ls xs 57 113 = some (o_push (.int 0) 1) := (m_57 113).trans rfl
set_option maxRecDepth 20000 in
theorem t_57_114 {Ls : Nat} {xs : Nat → Int32} : am_tbl Ls xs 57 114 = some (o_istore 7 2) := (m_57 114).trans rfl
set_option maxRecDepth 20000 in
theorem t_57_116 {Ls : Nat} {xs : Nat → Int32} : am_tbl Ls xs 57 116 = some (o_nrm [0, 2, 3, 5, 6, 7] (o_aload 0 1)) := (m_57 116).trans rfl
set_option maxRecDepth 20000 in
theorem t_57_117 {Ls : Nat} {xs : Nat → Int32} : am_tbl Ls xs 57 117 = some (o_iload 3 1) := (m_57 117).trans rfl
set_option maxRecDepth 20000 in
theorem t_57_118 {Ls : Nat} {xs : Nat → Int32} : am_tbl Ls xs 57 118 = some (o_iload 7 2) := (m_57 118).trans rfl
set_option maxRecDepth 20000 in
theorem t_57_120 {Ls : Nat} {xs : Nat → Int32} : am_tbl Ls xs 57 120 = some (o_callv 55 2 9 3) := (m_57 120).trans rfl
set_option maxRecDepth 20000 in
theorem t_57_123 {Ls : Nat} {xs : Nat → Int32} : am_tbl Ls xs 57 123 = some (o_if (fun x => decide (x = 0)) 144) := (m_57 123).trans rfl
set_option maxRecDepth 20000 in
theorem t_57_126 {Ls : Nat} {xs : Nat → Int32} : am_tbl Ls xs 57 126 = some (o_aload 0 1) := (m_57 126).trans rfl
set_option maxRecDepth 20000 in
theorem t_57_127 {Ls : Nat} {xs : Nat → Int32} : am_tbl Ls xs 57 127 = some (o_get 9 48) := (m_57 127).trans rfl
set_option maxRecDepth 20000 in
theorem t_57_130 {Ls : Nat} {xs : Nat → Int32} : am_tbl Ls xs 57 130 = some (o_push (.int 48) 2) := (m_57 130).trans rfl
set_option maxRecDepth 20000 in
theorem t_57_132 {Ls : Nat} {xs : Nat → Int32} : am_tbl Ls xs 57 132 = some (o_iload 5 2) := (m_57 132).trans rfl
set_option maxRecDepth 20000 in
theorem t_57_134 {Ls : Nat} {xs : Nat → Int32} : am_tbl Ls xs 57 134 = some (o_ibin (fun x y => x * y)) := (m_57 134).trans rfl
set_option maxRecDepth 20000 in
theorem t_57_135 {Ls : Nat} {xs : Nat → Int32} : am_tbl Ls xs 57 135 = some (o_iload 7 2) := (m_57 135).trans rfl
set_option maxRecDepth 20000 in
theorem t_57_137 {Ls : Nat} {xs : Nat → Int32} : am_tbl Ls xs 57 137 = some (o_ibin (fun x y => x + y)) := (m_57 137).trans rfl
set_option maxRecDepth 20000 in
theorem t_57_138 {Ls : Nat} {xs : Nat → Int32} : am_tbl Ls xs 57 138 = some (o_iald 1) := (m_57 138).trans rfl
set_option maxRecDepth 20000 in
theorem t_57_139 {Ls : Nat} {xs : Nat → Int32} : am_tbl Ls xs 57 139 = some (o_iload 6 2) := (m_57 139).trans rfl
set_option maxRecDepth 20000 in
theorem t_57_141 {Ls : Nat} {xs : Nat → Int32} : am_tbl Ls xs 57 141 = some (o_icmp (fun x y => decide (x = y)) 150) := (m_57 141).trans rfl
set_option maxRecDepth 20000 in
theorem t_57_144 {Ls : Nat} {xs : Nat → Int32} : am_tbl Ls xs 57 144 = some (o_nrm [0, 2, 3, 5, 6, 7] (o_iinc 7 1)) := (m_57 144).trans rfl
set_option maxRecDepth 20000 in
theorem t_57_147 {Ls : Nat} {xs : Nat → Int32} : am_tbl Ls xs 57 147 = some (o_goto 116) := (m_57 147).trans rfl
set_option maxRecDepth 20000 in
theorem t_57_150 {Ls : Nat} {xs : Nat → Int32} : am_tbl Ls xs 57 150 = some (o_iload 7 2) := (m_57 150).trans rfl
set_option maxRecDepth 20000 in
theorem t_57_152 {Ls : Nat} {xs : Nat → Int32} : am_tbl Ls xs 57 152 = some (o_istore 3 1) := (m_57 152).trans rfl
set_option maxRecDepth 20000 in
theorem t_57_153 {Ls : Nat} {xs : Nat → Int32} : am_tbl Ls xs 57 153 = some (o_iinc 5 1) := (m_57 153).trans rfl
set_option maxRecDepth 20000 in
theorem t_57_156 {Ls : Nat} {xs : Nat → Int32} : am_tbl Ls xs 57 156 = some (o_goto 76) := (m_57 156).trans rfl
set_option maxRecDepth 20000 in
theorem t_57_159 {Ls : Nat} {xs : Nat → Int32} : am_tbl Ls xs 57 159 = some (o_aload 0 1) := (m_57 159).trans rfl
set_option maxRecDepth 20000 in
theorem t_57_160 {Ls : Nat} {xs : Nat → Int32} : am_tbl Ls xs 57 160 = some (o_iload 3 1) := (m_57 160).trans rfl
set_option maxRecDepth 20000 in
theorem t_57_161 {Ls : Nat} {xs : Nat → Int32} : am_tbl Ls xs 57 161 = some (o_callv 8 1 9 2) := (m_57 161).trans rfl
set_option maxRecDepth 20000 in
theorem t_57_164 {Ls : Nat} {xs : Nat → Int32} : am_tbl Ls xs 57 164 = some (o_iret) := (m_57 164).trans rfl
theorem m_58 {Ls : Nat} {xs : Nat → Int32} (pc : Nat) : am_tbl Ls xs 58 pc = am_lk (op_X9_coupleOf) pc := rfl
theorem t_58_0 {Ls : Nat} {xs : Nat → Int32} : am_tbl Ls xs 58 0 = some (o_iload 1 1) := (m_58 0).trans rfl
theorem t_58_1 {Ls : Nat} {xs : Nat → Int32} : am_tbl Ls xs 58 1 = some (o_iload 2 1) := (m_58 1).trans rfl
theorem t_58_2 {Ls : Nat} {xs : Nat → Int32} : am_tbl Ls xs 58 2 = some (o_icmp (fun x y => decide (y ≤ x)) 9) := (m_58 2).trans rfl
theorem t_58_5 {Ls : Nat} {xs : Nat → Int32} : am_tbl Ls xs 58 5 = some (o_iload 1 1) := (m_58 5).trans rfl
theorem t_58_6 {Ls : Nat} {xs : Nat → Int32} : am_tbl Ls xs 58 6 = some (o_goto 10) := (m_58 6).trans rfl
theorem t_58_9 {Ls : Nat} {xs : Nat → Int32} : am_tbl Ls xs 58 9 = some (o_iload 2 1) := (m_58 9).trans rfl
theorem t_58_10 {Ls : Nat} {xs : Nat → Int32} : am_tbl Ls xs 58 10 = some (o_nrm [0, 1, 2] (o_istore 3 1)) := (m_58 10).trans rfl
theorem t_58_11 {Ls : Nat} {xs : Nat → Int32} : am_tbl Ls xs 58 11 = some (o_iload 1 1) := (m_58 11).trans rfl
theorem t_58_12 {Ls : Nat} {xs : Nat → Int32} : am_tbl Ls xs 58 12 = some (o_iload 2 1) := (m_58 12).trans rfl
theorem t_58_13 {Ls : Nat} {xs : Nat → Int32} : am_tbl Ls xs 58 13 = some (o_icmp (fun x y => decide (y ≤ x)) 20) := (m_58 13).trans rfl
theorem t_58_16 {Ls : Nat} {xs : Nat → Int32} : am_tbl Ls xs 58 16 = some (o_iload 2 1) := (m_58 16).trans rfl
theorem t_58_17 {Ls : Nat} {xs : Nat → Int32} : am_tbl Ls xs 58 17 = some (o_goto 21) := (m_58 17).trans rfl
theorem t_58_20 {Ls : Nat} {xs : Nat → Int32} : am_tbl Ls xs 58 20 = some (o_iload 1 1) := (m_58 20).trans rfl
theorem t_58_21 {Ls : Nat} {xs : Nat → Int32} : am_tbl Ls xs 58 21 = some (o_nrm [0, 1, 2, 3] (o_istore 4 2)) := (m_58 21).trans rfl
theorem t_58_23 {Ls : Nat} {xs : Nat → Int32} : am_tbl Ls xs 58 23 = some (o_aload 0 1) := (m_58 23).trans rfl
theorem t_58_24 {Ls : Nat} {xs : Nat → Int32} : am_tbl Ls xs 58 24 = some (o_iload 1 1) := (m_58 24).trans rfl
theorem t_58_25 {Ls : Nat} {xs : Nat → Int32} : am_tbl Ls xs 58 25 = some (o_callv 33 1 9 4) := (m_58 25).trans rfl
theorem t_58_28 {Ls : Nat} {xs : Nat → Int32} : am_tbl Ls xs 58 28 = some (o_aload 0 1) := (m_58 28).trans rfl
theorem t_58_29 {Ls : Nat} {xs : Nat → Int32} : am_tbl Ls xs 58 29 = some (o_iload 2 1) := (m_58 29).trans rfl
theorem t_58_30 {Ls : Nat} {xs : Nat → Int32} : am_tbl Ls xs 58 30 = some (o_callv 33 1 9 4) := (m_58 30).trans rfl
theorem t_58_33 {Ls : Nat} {xs : Nat → Int32} : am_tbl Ls xs 58 33 = some (o_ibin (fun x y => x + y)) := (m_58 33).trans rfl
theorem t_58_34 {Ls : Nat} {xs : Nat → Int32} : am_tbl Ls xs 58 34 = some (o_istore 5 2) := (m_58 34).trans rfl
theorem t_58_36 {Ls : Nat} {xs : Nat → Int32} : am_tbl Ls xs 58 36 = some (o_aload 0 1) := (m_58 36).trans rfl
theorem t_58_37 {Ls : Nat} {xs : Nat → Int32} : am_tbl Ls xs 58 37 = some (o_iload 1 1) := (m_58 37).trans rfl
theorem t_58_38 {Ls : Nat} {xs : Nat → Int32} : am_tbl Ls xs 58 38 = some (o_callv 29 1 9 2) := (m_58 38).trans rfl
theorem t_58_41 {Ls : Nat} {xs : Nat → Int32} : am_tbl Ls xs 58 41 = some (o_aload 0 1) := (m_58 41).trans rfl
theorem t_58_42 {Ls : Nat} {xs : Nat → Int32} : am_tbl Ls xs 58 42 = some (o_iload 2 1) := (m_58 42).trans rfl
theorem t_58_43 {Ls : Nat} {xs : Nat → Int32} : am_tbl Ls xs 58 43 = some (o_callv 29 1 9 2) := (m_58 43).trans rfl
theorem t_58_46 {Ls : Nat} {xs : Nat → Int32} : am_tbl Ls xs 58 46 = some (o_icmp (fun x y => decide (x ≤ y)) 57) := (m_58 46).trans rfl
theorem t_58_49 {Ls : Nat} {xs : Nat → Int32} : am_tbl Ls xs 58 49 = some (o_aload 0 1) := (m_58 49).trans rfl
theorem t_58_50 {Ls : Nat} {xs : Nat → Int32} : am_tbl Ls xs 58 50 = some (o_iload 1 1) := (m_58 50).trans rfl
theorem t_58_51 {Ls : Nat} {xs : Nat → Int32} : am_tbl Ls xs 58 51 = some (o_callv 29 1 9 2) := (m_58 51).trans rfl
theorem t_58_54 {Ls : Nat} {xs : Nat → Int32} : am_tbl Ls xs 58 54 = some (o_goto 62) := (m_58 54).trans rfl
theorem t_58_57 {Ls : Nat} {xs : Nat → Int32} : am_tbl Ls xs 58 57 = some (o_aload 0 1) := (m_58 57).trans rfl
theorem t_58_58 {Ls : Nat} {xs : Nat → Int32} : am_tbl Ls xs 58 58 = some (o_iload 2 1) := (m_58 58).trans rfl
theorem t_58_59 {Ls : Nat} {xs : Nat → Int32} : am_tbl Ls xs 58 59 = some (o_callv 29 1 9 2) := (m_58 59).trans rfl
theorem t_58_62 {Ls : Nat} {xs : Nat → Int32} : am_tbl Ls xs 58 62 = some (o_nrm [0, 3, 4, 5] (o_istore 6 2)) := (m_58 62).trans rfl
theorem t_58_64 {Ls : Nat} {xs : Nat → Int32} : am_tbl Ls xs 58 64 = some (o_aload 0 1) := (m_58 64).trans rfl
theorem t_58_65 {Ls : Nat} {xs : Nat → Int32} : am_tbl Ls xs 58 65 = some (o_get 9 9) := (m_58 65).trans rfl
theorem t_58_68 {Ls : Nat} {xs : Nat → Int32} : am_tbl Ls xs 58 68 = some (o_iload 3 1) := (m_58 68).trans rfl
theorem t_58_69 {Ls : Nat} {xs : Nat → Int32} : am_tbl Ls xs 58 69 = some (o_iald 1) := (m_58 69).trans rfl
theorem t_58_70 {Ls : Nat} {xs : Nat → Int32} : am_tbl Ls xs 58 70 = some (o_istore 7 2) := (m_58 70).trans rfl
theorem t_58_72 {Ls : Nat} {xs : Nat → Int32} : am_tbl Ls xs 58 72 = some (o_aload 0 1) := (m_58 72).trans rfl
theorem t_58_73 {Ls : Nat} {xs : Nat → Int32} : am_tbl Ls xs 58 73 = some (o_iload 4 2) := (m_58 73).trans rfl
theorem t_58_75 {Ls : Nat} {xs : Nat → Int32} : am_tbl Ls xs 58 75 = some (o_puti 9 39) := (m_58 75).trans rfl
theorem t_58_78 {Ls : Nat} {xs : Nat → Int32} : am_tbl Ls xs 58 78 = some (o_aload 0 1) := (m_58 78).trans rfl
theorem t_58_79 {Ls : Nat} {xs : Nat → Int32} : am_tbl Ls xs 58 79 = some (o_iload 6 2) := (m_58 79).trans rfl
theorem t_58_81 {Ls : Nat} {xs : Nat → Int32} : am_tbl Ls xs 58 81 = some (o_puti 9 41) := (m_58 81).trans rfl
theorem t_58_84 {Ls : Nat} {xs : Nat → Int32} : am_tbl Ls xs 58 84 = some (o_aload 0 1) := (m_58 84).trans rfl
theorem t_58_85 {Ls : Nat} {xs : Nat → Int32} : am_tbl Ls xs 58 85 = some (o_iload 3 1) := (m_58 85).trans rfl
theorem t_58_86 {Ls : Nat} {xs : Nat → Int32} : am_tbl Ls xs 58 86 = some (o_puti 9 40) := (m_58 86).trans rfl
theorem t_58_89 {Ls : Nat} {xs : Nat → Int32} : am_tbl Ls xs 58 89 = some (o_aload 0 1) := (m_58 89).trans rfl
theorem t_58_90 {Ls : Nat} {xs : Nat → Int32} : am_tbl Ls xs 58 90 = some (o_iload 3 1) := (m_58 90).trans rfl
theorem t_58_91 {Ls : Nat} {xs : Nat → Int32} : am_tbl Ls xs 58 91 = some (o_callv 33 1 9 4) := (m_58 91).trans rfl
theorem t_58_94 {Ls : Nat} {xs : Nat → Int32} : am_tbl Ls xs 58 94 = some (o_istore 8 2) := (m_58 94).trans rfl
theorem t_58_96 {Ls : Nat} {xs : Nat → Int32} : am_tbl Ls xs 58 96 = some (o_aload 0 1) := (m_58 96).trans rfl
theorem t_58_97 {Ls : Nat} {xs : Nat → Int32} : am_tbl Ls xs 58 97 = some (o_get 9 9) := (m_58 97).trans rfl
theorem t_58_100 {Ls : Nat} {xs : Nat → Int32} : am_tbl Ls xs 58 100 = some (o_iload 3 1) := (m_58 100).trans rfl
theorem t_58_101 {Ls : Nat} {xs : Nat → Int32} : am_tbl Ls xs 58 101 = some (o_aload 0 1) := (m_58 101).trans rfl
theorem t_58_102 {Ls : Nat} {xs : Nat → Int32} : am_tbl Ls xs 58 102 = some (o_get 9 9) := (m_58 102).trans rfl
theorem t_58_105 {Ls : Nat} {xs : Nat → Int32} : am_tbl Ls xs 58 105 = some (o_iload 4 2) := (m_58 105).trans rfl
set_option maxRecDepth 20000 in
theorem t_58_107 {Ls : Nat} {xs : Nat → Int32} : am_tbl Ls xs 58 107 = some (o_iald 1) := (m_58 107).trans rfl
set_option maxRecDepth 20000 in
theorem t_58_108 {Ls : Nat} {xs : Nat → Int32} : am_tbl Ls xs 58 108 = some (o_iast 1 (fun x => x)) := (m_58 108).trans rfl
set_option maxRecDepth 20000 in
theorem t_58_109 {Ls : Nat} {xs : Nat → Int32} : am_tbl Ls xs 58 109 = some (o_aload 0 1) := (m_58 109).trans rfl
set_option maxRecDepth 20000 in
theorem t_58_110 {Ls : Nat} {xs : Nat → Int32} : am_tbl Ls xs 58 110 = some (o_iload 3 1) := (m_58 110).trans rfl
set_option maxRecDepth 20000 in
theorem t_58_111 {Ls : Nat} {xs : Nat → Int32} : am_tbl Ls xs 58 111 = some (o_callv 33 1 9 4) := (m_58 111).trans rfl
set_option maxRecDepth 20000 in
theorem t_58_114 {Ls : Nat} {xs : Nat → Int32} : am_tbl Ls xs 58 114 = some (o_istore 9 2) := (m_58 114).trans rfl
set_option maxRecDepth 20000 in
theorem t_58_116 {Ls : Nat} {xs : Nat → Int32} : am_tbl Ls xs 58 116 = some (o_aload 0 1) := (m_58 116).trans rfl
set_option maxRecDepth 20000 in
theorem t_58_117 {Ls : Nat} {xs : Nat → Int32} : am_tbl Ls xs 58 117 = some (o_get 9 9) := (m_58 117).trans rfl
set_option maxRecDepth 20000 in
theorem t_58_120 {Ls : Nat} {xs : Nat → Int32} : am_tbl Ls xs 58 120 = some (o_iload 3 1) := (m_58 120).trans rfl
set_option maxRecDepth 20000 in
theorem t_58_121 {Ls : Nat} {xs : Nat → Int32} : am_tbl Ls xs 58 121 = some (o_iload 7 2) := (m_58 121).trans rfl
set_option maxRecDepth 20000 in
theorem t_58_123 {Ls : Nat} {xs : Nat → Int32} : am_tbl Ls xs 58 123 = some (o_iast 1 (fun x => x)) := (m_58 123).trans rfl
set_option maxRecDepth 20000 in
theorem t_58_124 {Ls : Nat} {xs : Nat → Int32} : am_tbl Ls xs 58 124 = some (o_aload 0 1) := (m_58 124).trans rfl
set_option maxRecDepth 20000 in
theorem t_58_125 {Ls : Nat} {xs : Nat → Int32} : am_tbl Ls xs 58 125 = some (o_push (.int (-1)) 1) := (m_58 125).trans rfl
set_option maxRecDepth 20000 in
theorem t_58_126 {Ls : Nat} {xs : Nat → Int32} : am_tbl Ls xs 58 126 = some (o_puti 9 39) := (m_58 126).trans rfl
set_option maxRecDepth 20000 in
theorem t_58_129 {Ls : Nat} {xs : Nat → Int32} : am_tbl Ls xs 58 129 = some (o_aload 0 1) := (m_58 129).trans rfl
set_option maxRecDepth 20000 in
theorem t_58_130 {Ls : Nat} {xs : Nat → Int32} : am_tbl Ls xs 58 130 = some (o_push (.int (-1)) 1) := (m_58 130).trans rfl
set_option maxRecDepth 20000 in
theorem t_58_131 {Ls : Nat} {xs : Nat → Int32} : am_tbl Ls xs 58 131 = some (o_puti 9 40) := (m_58 131).trans rfl
set_option maxRecDepth 20000 in
theorem t_58_134 {Ls : Nat} {xs : Nat → Int32} : am_tbl Ls xs 58 134 = some (o_iload 5 2) := (m_58 134).trans rfl
set_option maxRecDepth 20000 in
theorem t_58_136 {Ls : Nat} {xs : Nat → Int32} : am_tbl Ls xs 58 136 = some (o_iload 8 2) := (m_58 136).trans rfl
set_option maxRecDepth 20000 in
theorem t_58_138 {Ls : Nat} {xs : Nat → Int32} : am_tbl Ls xs 58 138 = some (o_iload 9 2) := (m_58 138).trans rfl
set_option maxRecDepth 20000 in
theorem t_58_140 {Ls : Nat} {xs : Nat → Int32} : am_tbl Ls xs 58 140 = some (o_icmp (fun x y => decide (y ≤ x)) 148) := (m_58 140).trans rfl
set_option maxRecDepth 20000 in
theorem t_58_143 {Ls : Nat} {xs : Nat → Int32} : am_tbl Ls xs 58 143 = some (o_iload 8 2) := (m_58 143).trans rfl
set_option maxRecDepth 20000 in
theorem t_58_145 {Ls : Nat} {xs : Nat → Int32} : am_tbl Ls xs 58 145 = some (o_goto 150) := (m_58 145).trans rfl
set_option maxRecDepth 20000 in
theorem t_58_148 {Ls : Nat} {xs : Nat → Int32} : am_tbl Ls xs 58 148 = some (o_iload 9 2) := (m_58 148).trans rfl
set_option maxRecDepth 20000 in
theorem t_58_150 {Ls : Nat} {xs : Nat → Int32} : am_tbl Ls xs 58 150 = some (o_nrm [] (o_ibin (fun x y => x - y))) := (m_58 150).trans rfl
set_option maxRecDepth 20000 in
theorem t_58_151 {Ls : Nat} {xs : Nat → Int32} : am_tbl Ls xs 58 151 = some (o_iret) := (m_58 151).trans rfl
theorem m_59 {Ls : Nat} {xs : Nat → Int32} (pc : Nat) : am_tbl Ls xs 59 pc = am_lk (op_X9_couple) pc := rfl
theorem t_59_0 {Ls : Nat} {xs : Nat → Int32} : am_tbl Ls xs 59 0 = some (o_aload 0 1) := (m_59 0).trans rfl
theorem t_59_1 {Ls : Nat} {xs : Nat → Int32} : am_tbl Ls xs 59 1 = some (o_iload 1 1) := (m_59 1).trans rfl
theorem t_59_2 {Ls : Nat} {xs : Nat → Int32} : am_tbl Ls xs 59 2 = some (o_callv 5 1 9 2) := (m_59 2).trans rfl
theorem t_59_5 {Ls : Nat} {xs : Nat → Int32} : am_tbl Ls xs 59 5 = some (o_if (fun x => decide (x = 0)) 30) := (m_59 5).trans rfl
theorem t_59_8 {Ls : Nat} {xs : Nat → Int32} : am_tbl Ls xs 59 8 = some (o_aload 0 1) := (m_59 8).trans rfl
theorem t_59_9 {Ls : Nat} {xs : Nat → Int32} : am_tbl Ls xs 59 9 = some (o_iload 2 1) := (m_59 9).trans rfl
theorem t_59_10 {Ls : Nat} {xs : Nat → Int32} : am_tbl Ls xs 59 10 = some (o_callv 5 1 9 2) := (m_59 10).trans rfl
theorem t_59_13 {Ls : Nat} {xs : Nat → Int32} : am_tbl Ls xs 59 13 = some (o_if (fun x => decide (x = 0)) 30) := (m_59 13).trans rfl
theorem t_59_16 {Ls : Nat} {xs : Nat → Int32} : am_tbl Ls xs 59 16 = some (o_iload 1 1) := (m_59 16).trans rfl
theorem t_59_17 {Ls : Nat} {xs : Nat → Int32} : am_tbl Ls xs 59 17 = some (o_iload 2 1) := (m_59 17).trans rfl
theorem t_59_18 {Ls : Nat} {xs : Nat → Int32} : am_tbl Ls xs 59 18 = some (o_icmp (fun x y => decide (x = y)) 30) := (m_59 18).trans rfl
theorem t_59_21 {Ls : Nat} {xs : Nat → Int32} : am_tbl Ls xs 59 21 = some (o_aload 0 1) := (m_59 21).trans rfl
theorem t_59_22 {Ls : Nat} {xs : Nat → Int32} : am_tbl Ls xs 59 22 = some (o_iload 1 1) := (m_59 22).trans rfl
theorem t_59_23 {Ls : Nat} {xs : Nat → Int32} : am_tbl Ls xs 59 23 = some (o_iload 2 1) := (m_59 23).trans rfl
theorem t_59_24 {Ls : Nat} {xs : Nat → Int32} : am_tbl Ls xs 59 24 = some (o_callv 58 2 9 10) := (m_59 24).trans rfl
theorem t_59_27 {Ls : Nat} {xs : Nat → Int32} : am_tbl Ls xs 59 27 = some (o_goto 33) := (m_59 27).trans rfl
theorem t_59_30 {Ls : Nat} {xs : Nat → Int32} : am_tbl Ls xs 59 30 = some (o_nrm [] (o_push (.int (-1000000001)) 3)) := (m_59 30).trans rfl
theorem t_59_33 {Ls : Nat} {xs : Nat → Int32} : am_tbl Ls xs 59 33 = some (o_nrm [] (o_iret)) := (m_59 33).trans rfl
theorem m_60 {Ls : Nat} {xs : Nat → Int32} (pc : Nat) : am_tbl Ls xs 60 pc = am_lk (op_X9_setPartners) pc := rfl
theorem t_60_0 {Ls : Nat} {xs : Nat → Int32} : am_tbl Ls xs 60 0 = some (o_iload 1 1) := (m_60 0).trans rfl
theorem t_60_1 {Ls : Nat} {xs : Nat → Int32} : am_tbl Ls xs 60 1 = some (o_istore 2 1) := (m_60 1).trans rfl
theorem t_60_2 {Ls : Nat} {xs : Nat → Int32} : am_tbl Ls xs 60 2 = some (o_aload 0 1) := (m_60 2).trans rfl
theorem t_60_3 {Ls : Nat} {xs : Nat → Int32} : am_tbl Ls xs 60 3 = some (o_get 9 8) := (m_60 3).trans rfl
theorem t_60_6 {Ls : Nat} {xs : Nat → Int32} : am_tbl Ls xs 60 6 = some (o_push (.int 1) 1) := (m_60 6).trans rfl
theorem t_60_7 {Ls : Nat} {xs : Nat → Int32} : am_tbl Ls xs 60 7 = some (o_ibin (fun x y => x - y)) := (m_60 7).trans rfl
theorem t_60_8 {Ls : Nat} {xs : Nat → Int32} : am_tbl Ls xs 60 8 = some (o_istore 3 1) := (m_60 8).trans rfl
theorem t_60_9 {Ls : Nat} {xs : Nat → Int32} : am_tbl Ls xs 60 9 = some (o_nrm [0, 2, 3] (o_iload 3 1)) := (m_60 9).trans rfl
theorem t_60_10 {Ls : Nat} {xs : Nat → Int32} : am_tbl Ls xs 60 10 = some (o_if (fun x => decide (x < 0)) 44) := (m_60 10).trans rfl
theorem t_60_13 {Ls : Nat} {xs : Nat → Int32} : am_tbl Ls xs 60 13 = some (o_aload 0 1) := (m_60 13).trans rfl
theorem t_60_14 {Ls : Nat} {xs : Nat → Int32} : am_tbl Ls xs 60 14 = some (o_get 9 50) := (m_60 14).trans rfl
theorem t_60_17 {Ls : Nat} {xs : Nat → Int32} : am_tbl Ls xs 60 17 = some (o_iload 3 1) := (m_60 17).trans rfl
theorem t_60_18 {Ls : Nat} {xs : Nat → Int32} : am_tbl Ls xs 60 18 = some (o_iload 2 1) := (m_60 18).trans rfl
theorem t_60_19 {Ls : Nat} {xs : Nat → Int32} : am_tbl Ls xs 60 19 = some (o_aload 0 1) := (m_60 19).trans rfl
theorem t_60_20 {Ls : Nat} {xs : Nat → Int32} : am_tbl Ls xs 60 20 = some (o_get 9 8) := (m_60 20).trans rfl
theorem t_60_23 {Ls : Nat} {xs : Nat → Int32} : am_tbl Ls xs 60 23 = some (o_push (.int 1) 1) := (m_60 23).trans rfl
theorem t_60_24 {Ls : Nat} {xs : Nat → Int32} : am_tbl Ls xs 60 24 = some (o_ibin (fun x y => x + y)) := (m_60 24).trans rfl
theorem t_60_25 {Ls : Nat} {xs : Nat → Int32} : am_tbl Ls xs 60 25 = some (o_idv (fun x y => x - x / y * y)) := (m_60 25).trans rfl
theorem t_60_26 {Ls : Nat} {xs : Nat → Int32} : am_tbl Ls xs 60 26 = some (o_push (.int 1) 1) := (m_60 26).trans rfl
theorem t_60_27 {Ls : Nat} {xs : Nat → Int32} : am_tbl Ls xs 60 27 = some (o_ibin (fun x y => x - y)) := (m_60 27).trans rfl
theorem t_60_28 {Ls : Nat} {xs : Nat → Int32} : am_tbl Ls xs 60 28 = some (o_iast 1 (fun x => x)) := (m_60 28).trans rfl
theorem t_60_29 {Ls : Nat} {xs : Nat → Int32} : am_tbl Ls xs 60 29 = some (o_iload 2 1) := (m_60 29).trans rfl
theorem t_60_30 {Ls : Nat} {xs : Nat → Int32} : am_tbl Ls xs 60 30 = some (o_aload 0 1) := (m_60 30).trans rfl
theorem t_60_31 {Ls : Nat} {xs : Nat → Int32} : am_tbl Ls xs 60 31 = some (o_get 9 8) := (m_60 31).trans rfl
theorem t_60_34 {Ls : Nat} {xs : Nat → Int32} : am_tbl Ls xs 60 34 = some (o_push (.int 1) 1) := (m_60 34).trans rfl
theorem t_60_35 {Ls : Nat} {xs : Nat → Int32} : am_tbl Ls xs 60 35 = some (o_ibin (fun x y => x + y)) := (m_60 35).trans rfl
theorem t_60_36 {Ls : Nat} {xs : Nat → Int32} : am_tbl Ls xs 60 36 = some (o_idv (fun x y => x / y)) := (m_60 36).trans rfl
theorem t_60_37 {Ls : Nat} {xs : Nat → Int32} : am_tbl Ls xs 60 37 = some (o_istore 2 1) := (m_60 37).trans rfl
theorem t_60_38 {Ls : Nat} {xs : Nat → Int32} : am_tbl Ls xs 60 38 = some (o_iinc 3 (-1)) := (m_60 38).trans rfl
theorem t_60_41 {Ls : Nat} {xs : Nat → Int32} : am_tbl Ls xs 60 41 = some (o_goto 9) := (m_60 41).trans rfl
theorem t_60_44 {Ls : Nat} {xs : Nat → Int32} : am_tbl Ls xs 60 44 = some (o_push (.int 1) 1) := (m_60 44).trans rfl
theorem t_60_45 {Ls : Nat} {xs : Nat → Int32} : am_tbl Ls xs 60 45 = some (o_istore 3 1) := (m_60 45).trans rfl
theorem t_60_46 {Ls : Nat} {xs : Nat → Int32} : am_tbl Ls xs 60 46 = some (o_push (.int 0) 1) := (m_60 46).trans rfl
theorem t_60_47 {Ls : Nat} {xs : Nat → Int32} : am_tbl Ls xs 60 47 = some (o_istore 4 2) := (m_60 47).trans rfl
theorem t_60_49 {Ls : Nat} {xs : Nat → Int32} : am_tbl Ls xs 60 49 = some (o_nrm [0, 3, 4] (o_iload 4 2)) := (m_60 49).trans rfl
theorem t_60_51 {Ls : Nat} {xs : Nat → Int32} : am_tbl Ls xs 60 51 = some (o_aload 0 1) := (m_60 51).trans rfl
theorem t_60_52 {Ls : Nat} {xs : Nat → Int32} : am_tbl Ls xs 60 52 = some (o_get 9 8) := (m_60 52).trans rfl
theorem t_60_55 {Ls : Nat} {xs : Nat → Int32} : am_tbl Ls xs 60 55 = some (o_icmp (fun x y => decide (y ≤ x)) 113) := (m_60 55).trans rfl
theorem t_60_58 {Ls : Nat} {xs : Nat → Int32} : am_tbl Ls xs 60 58 = some (o_iload 3 1) := (m_60 58).trans rfl
theorem t_60_59 {Ls : Nat} {xs : Nat → Int32} : am_tbl Ls xs 60 59 = some (o_if (fun x => decide (x = 0)) 105) := (m_60 59).trans rfl
theorem t_60_62 {Ls : Nat} {xs : Nat → Int32} : am_tbl Ls xs 60 62 = some (o_aload 0 1) := (m_60 62).trans rfl
theorem t_60_63 {Ls : Nat} {xs : Nat → Int32} : am_tbl Ls xs 60 63 = some (o_get 9 50) := (m_60 63).trans rfl
theorem t_60_66 {Ls : Nat} {xs : Nat → Int32} : am_tbl Ls xs 60 66 = some (o_iload 4 2) := (m_60 66).trans rfl
theorem t_60_68 {Ls : Nat} {xs : Nat → Int32} : am_tbl Ls xs 60 68 = some (o_iald 1) := (m_60 68).trans rfl
theorem t_60_69 {Ls : Nat} {xs : Nat → Int32} : am_tbl Ls xs 60 69 = some (o_if (fun x => decide (x < 0)) 101) := (m_60 69).trans rfl
theorem t_60_72 {Ls : Nat} {xs : Nat → Int32} : am_tbl Ls xs 60 72 = some (o_aload 0 1) := (m_60 72).trans rfl
theorem t_60_73 {Ls : Nat} {xs : Nat → Int32} : am_tbl Ls xs 60 73 = some (o_get 9 50) := (m_60 73).trans rfl
theorem t_60_76 {Ls : Nat} {xs : Nat → Int32} : am_tbl Ls xs 60 76 = some (o_iload 4 2) := (m_60 76).trans rfl
theorem t_60_78 {Ls : Nat} {xs : Nat → Int32} : am_tbl Ls xs 60 78 = some (o_iald 1) := (m_60 78).trans rfl
theorem t_60_79 {Ls : Nat} {xs : Nat → Int32} : am_tbl Ls xs 60 79 = some (o_iload 4 2) := (m_60 79).trans rfl
theorem t_60_81 {Ls : Nat} {xs : Nat → Int32} : am_tbl Ls xs 60 81 = some (o_icmp (fun x y => decide (x = y)) 105) := (m_60 81).trans rfl
theorem t_60_84 {Ls : Nat} {xs : Nat → Int32} : am_tbl Ls xs 60 84 = some (o_aload 0 1) := (m_60 84).trans rfl
theorem t_60_85 {Ls : Nat} {xs : Nat → Int32} : am_tbl Ls xs 60 85 = some (o_get 9 50) := (m_60 85).trans rfl
theorem t_60_88 {Ls : Nat} {xs : Nat → Int32} : am_tbl Ls xs 60 88 = some (o_aload 0 1) := (m_60 88).trans rfl
theorem t_60_89 {Ls : Nat} {xs : Nat → Int32} : am_tbl Ls xs 60 89 = some (o_get 9 50) := (m_60 89).trans rfl
theorem t_60_92 {Ls : Nat} {xs : Nat → Int32} : am_tbl Ls xs 60 92 = some (o_iload 4 2) := (m_60 92).trans rfl
theorem t_60_94 {Ls : Nat} {xs : Nat → Int32} : am_tbl Ls xs 60 94 = some (o_iald 1) := (m_60 94).trans rfl
theorem t_60_95 {Ls : Nat} {xs : Nat → Int32} : am_tbl Ls xs 60 95 = some (o_iald 1) := (m_60 95).trans rfl
theorem t_60_96 {Ls : Nat} {xs : Nat → Int32} : am_tbl Ls xs 60 96 = some (o_iload 4 2) := (m_60 96).trans rfl
theorem t_60_98 {Ls : Nat} {xs : Nat → Int32} : am_tbl Ls xs 60 98 = some (o_icmp (fun x y => decide (x ≠ y)) 105) := (m_60 98).trans rfl
theorem t_60_101 {Ls : Nat} {xs : Nat → Int32} : am_tbl Ls xs 60 101 = some (o_nrm [0, 4] (o_push (.int 1) 1)) := (m_60 101).trans rfl
set_option maxRecDepth 20000 in
theorem t_60_102 {Ls : Nat} {xs : Nat → Int32} : am_tbl Ls xs 60 102 = some (o_goto 106) := (m_60 102).trans rfl
set_option maxRecDepth 20000 in
theorem t_60_105 {Ls : Nat} {xs : Nat → Int32} : am_tbl Ls xs 60 105 = some (o_nrm [0, 4] (o_push (.int 0) 1)) := (m_60 105).trans rfl
set_option maxRecDepth 20000 in
theorem t_60_106 {Ls : Nat} {xs : Nat → Int32} : am_tbl Ls xs 60 106 = some (o_nrm [0, 4] (o_istore 3 1)) := (m_60 106).trans rfl
set_option maxRecDepth 20000 in
theorem t_60_107 {Ls : Nat} {xs : Nat → Int32} : am_tbl Ls xs 60 107 = some (o_iinc 4 1) := (m_60 107).trans rfl
set_option maxRecDepth 20000 in
theorem t_60_110 {Ls : Nat} {xs : Nat → Int32} : am_tbl Ls xs 60 110 = some (o_goto 49) := (m_60 110).trans rfl
set_option maxRecDepth 20000 in
theorem t_60_113 {Ls : Nat} {xs : Nat → Int32} : am_tbl Ls xs 60 113 = some (o_iload 3 1) := (m_60 113).trans rfl
set_option maxRecDepth 20000 in
theorem t_60_114 {Ls : Nat} {xs : Nat → Int32} : am_tbl Ls xs 60 114 = some (o_zret) := (m_60 114).trans rfl
theorem m_61 {Ls : Nat} {xs : Nat → Int32} (pc : Nat) : am_tbl Ls xs 61 pc = am_lk (op_X9_couples) pc := rfl
theorem t_61_0 {Ls : Nat} {xs : Nat → Int32} : am_tbl Ls xs 61 0 = some (o_iload 1 1) := (m_61 0).trans rfl
theorem t_61_1 {Ls : Nat} {xs : Nat → Int32} : am_tbl Ls xs 61 1 = some (o_push (.int (-1)) 1) := (m_61 1).trans rfl
theorem t_61_2 {Ls : Nat} {xs : Nat → Int32} : am_tbl Ls xs 61 2 = some (o_icmp (fun x y => decide (x = y)) 17) := (m_61 2).trans rfl
theorem t_61_5 {Ls : Nat} {xs : Nat → Int32} : am_tbl Ls xs 61 5 = some (o_aload 0 1) := (m_61 5).trans rfl
theorem t_61_6 {Ls : Nat} {xs : Nat → Int32} : am_tbl Ls xs 61 6 = some (o_iload 1 1) := (m_61 6).trans rfl
theorem t_61_7 {Ls : Nat} {xs : Nat → Int32} : am_tbl Ls xs 61 7 = some (o_callv 5 1 9 2) := (m_61 7).trans rfl
theorem t_61_10 {Ls : Nat} {xs : Nat → Int32} : am_tbl Ls xs 61 10 = some (o_if (fun x => decide (x ≠ 0)) 17) := (m_61 10).trans rfl
theorem t_61_13 {Ls : Nat} {xs : Nat → Int32} : am_tbl Ls xs 61 13 = some (o_push (.int (-1000000001)) 3) := (m_61 13).trans rfl
theorem t_61_16 {Ls : Nat} {xs : Nat → Int32} : am_tbl Ls xs 61 16 = some (o_iret) := (m_61 16).trans rfl
theorem t_61_17 {Ls : Nat} {xs : Nat → Int32} : am_tbl Ls xs 61 17 = some (o_nrm [0, 1] (o_push (.int 1) 1)) := (m_61 17).trans rfl
theorem t_61_18 {Ls : Nat} {xs : Nat → Int32} : am_tbl Ls xs 61 18 = some (o_istore 2 1) := (m_61 18).trans rfl
theorem t_61_19 {Ls : Nat} {xs : Nat → Int32} : am_tbl Ls xs 61 19 = some (o_push (.int 0) 1) := (m_61 19).trans rfl
theorem t_61_20 {Ls : Nat} {xs : Nat → Int32} : am_tbl Ls xs 61 20 = some (o_istore 3 1) := (m_61 20).trans rfl
theorem t_61_21 {Ls : Nat} {xs : Nat → Int32} : am_tbl Ls xs 61 21 = some (o_nrm [0, 1, 2, 3] (o_iload 3 1)) := (m_61 21).trans rfl
theorem t_61_22 {Ls : Nat} {xs : Nat → Int32} : am_tbl Ls xs 61 22 = some (o_aload 0 1) := (m_61 22).trans rfl
theorem t_61_23 {Ls : Nat} {xs : Nat → Int32} : am_tbl Ls xs 61 23 = some (o_get 9 8) := (m_61 23).trans rfl
theorem t_61_26 {Ls : Nat} {xs : Nat → Int32} : am_tbl Ls xs 61 26 = some (o_icmp (fun x y => decide (y ≤ x)) 78) := (m_61 26).trans rfl
theorem t_61_29 {Ls : Nat} {xs : Nat → Int32} : am_tbl Ls xs 61 29 = some (o_iload 2 1) := (m_61 29).trans rfl
theorem t_61_30 {Ls : Nat} {xs : Nat → Int32} : am_tbl Ls xs 61 30 = some (o_aload 0 1) := (m_61 30).trans rfl
theorem t_61_31 {Ls : Nat} {xs : Nat → Int32} : am_tbl Ls xs 61 31 = some (o_get 9 8) := (m_61 31).trans rfl
theorem t_61_34 {Ls : Nat} {xs : Nat → Int32} : am_tbl Ls xs 61 34 = some (o_push (.int 1) 1) := (m_61 34).trans rfl
theorem t_61_35 {Ls : Nat} {xs : Nat → Int32} : am_tbl Ls xs 61 35 = some (o_ibin (fun x y => x + y)) := (m_61 35).trans rfl
theorem t_61_36 {Ls : Nat} {xs : Nat → Int32} : am_tbl Ls xs 61 36 = some (o_ibin (fun x y => x * y)) := (m_61 36).trans rfl
theorem t_61_37 {Ls : Nat} {xs : Nat → Int32} : am_tbl Ls xs 61 37 = some (o_istore 2 1) := (m_61 37).trans rfl
theorem t_61_38 {Ls : Nat} {xs : Nat → Int32} : am_tbl Ls xs 61 38 = some (o_push (.int 0) 1) := (m_61 38).trans rfl
theorem t_61_39 {Ls : Nat} {xs : Nat → Int32} : am_tbl Ls xs 61 39 = some (o_istore 4 2) := (m_61 39).trans rfl
theorem t_61_41 {Ls : Nat} {xs : Nat → Int32} : am_tbl Ls xs 61 41 = some (o_nrm [0, 1, 2, 3, 4] (o_iload 4 2)) := (m_61 41).trans rfl
theorem t_61_43 {Ls : Nat} {xs : Nat → Int32} : am_tbl Ls xs 61 43 = some (o_iload 3 1) := (m_61 43).trans rfl
theorem t_61_44 {Ls : Nat} {xs : Nat → Int32} : am_tbl Ls xs 61 44 = some (o_icmp (fun x y => decide (y ≤ x)) 72) := (m_61 44).trans rfl
theorem t_61_47 {Ls : Nat} {xs : Nat → Int32} : am_tbl Ls xs 61 47 = some (o_aload 0 1) := (m_61 47).trans rfl
theorem t_61_48 {Ls : Nat} {xs : Nat → Int32} : am_tbl Ls xs 61 48 = some (o_get 9 49) := (m_61 48).trans rfl
theorem t_61_51 {Ls : Nat} {xs : Nat → Int32} : am_tbl Ls xs 61 51 = some (o_push (.int 6) 2) := (m_61 51).trans rfl
theorem t_61_53 {Ls : Nat} {xs : Nat → Int32} : am_tbl Ls xs 61 53 = some (o_iload 3 1) := (m_61 53).trans rfl
theorem t_61_54 {Ls : Nat} {xs : Nat → Int32} : am_tbl Ls xs 61 54 = some (o_ibin (fun x y => x * y)) := (m_61 54).trans rfl
theorem t_61_55 {Ls : Nat} {xs : Nat → Int32} : am_tbl Ls xs 61 55 = some (o_iload 4 2) := (m_61 55).trans rfl
theorem t_61_57 {Ls : Nat} {xs : Nat → Int32} : am_tbl Ls xs 61 57 = some (o_ibin (fun x y => x + y)) := (m_61 57).trans rfl
theorem t_61_58 {Ls : Nat} {xs : Nat → Int32} : am_tbl Ls xs 61 58 = some (o_aload 0 1) := (m_61 58).trans rfl
theorem t_61_59 {Ls : Nat} {xs : Nat → Int32} : am_tbl Ls xs 61 59 = some (o_iload 4 2) := (m_61 59).trans rfl
theorem t_61_61 {Ls : Nat} {xs : Nat → Int32} : am_tbl Ls xs 61 61 = some (o_iload 3 1) := (m_61 61).trans rfl
theorem t_61_62 {Ls : Nat} {xs : Nat → Int32} : am_tbl Ls xs 61 62 = some (o_callv 58 2 9 10) := (m_61 62).trans rfl
theorem t_61_65 {Ls : Nat} {xs : Nat → Int32} : am_tbl Ls xs 61 65 = some (o_iast 1 (fun x => x)) := (m_61 65).trans rfl
theorem t_61_66 {Ls : Nat} {xs : Nat → Int32} : am_tbl Ls xs 61 66 = some (o_iinc 4 1) := (m_61 66).trans rfl
theorem t_61_69 {Ls : Nat} {xs : Nat → Int32} : am_tbl Ls xs 61 69 = some (o_goto 41) := (m_61 69).trans rfl
theorem t_61_72 {Ls : Nat} {xs : Nat → Int32} : am_tbl Ls xs 61 72 = some (o_iinc 3 1) := (m_61 72).trans rfl
theorem t_61_75 {Ls : Nat} {xs : Nat → Int32} : am_tbl Ls xs 61 75 = some (o_goto 21) := (m_61 75).trans rfl
theorem t_61_78 {Ls : Nat} {xs : Nat → Int32} : am_tbl Ls xs 61 78 = some (o_push (.int 0) 1) := (m_61 78).trans rfl
theorem t_61_79 {Ls : Nat} {xs : Nat → Int32} : am_tbl Ls xs 61 79 = some (o_istore 3 1) := (m_61 79).trans rfl
theorem t_61_80 {Ls : Nat} {xs : Nat → Int32} : am_tbl Ls xs 61 80 = some (o_push (.int 0) 1) := (m_61 80).trans rfl
theorem t_61_81 {Ls : Nat} {xs : Nat → Int32} : am_tbl Ls xs 61 81 = some (o_istore 4 2) := (m_61 81).trans rfl
theorem t_61_83 {Ls : Nat} {xs : Nat → Int32} : am_tbl Ls xs 61 83 = some (o_push (.int 0) 1) := (m_61 83).trans rfl
theorem t_61_84 {Ls : Nat} {xs : Nat → Int32} : am_tbl Ls xs 61 84 = some (o_istore 5 2) := (m_61 84).trans rfl
theorem t_61_86 {Ls : Nat} {xs : Nat → Int32} : am_tbl Ls xs 61 86 = some (o_nrm [0, 1, 2, 3, 4, 5] (o_iload 5 2)) := (m_61 86).trans rfl
theorem t_61_88 {Ls : Nat} {xs : Nat → Int32} : am_tbl Ls xs 61 88 = some (o_iload 2 1) := (m_61 88).trans rfl
theorem t_61_89 {Ls : Nat} {xs : Nat → Int32} : am_tbl Ls xs 61 89 = some (o_icmp (fun x y => decide (y ≤ x)) 226) := (m_61 89).trans rfl
theorem t_61_92 {Ls : Nat} {xs : Nat → Int32} : am_tbl Ls xs 61 92 = some (o_aload 0 1) := (m_61 92).trans rfl
theorem t_61_93 {Ls : Nat} {xs : Nat → Int32} : am_tbl Ls xs 61 93 = some (o_iload 5 2) := (m_61 93).trans rfl
theorem t_61_95 {Ls : Nat} {xs : Nat → Int32} : am_tbl Ls xs 61 95 = some (o_callv 60 1 9 5) := (m_61 95).trans rfl
theorem t_61_98 {Ls : Nat} {xs : Nat → Int32} : am_tbl Ls xs 61 98 = some (o_if (fun x => decide (x = 0)) 220) := (m_61 98).trans rfl
theorem t_61_101 {Ls : Nat} {xs : Nat → Int32} : am_tbl Ls xs 61 101 = some (o_push (.int 0) 1) := (m_61 101).trans rfl
theorem t_61_102 {Ls : Nat} {xs : Nat → Int32} : am_tbl Ls xs 61 102 = some (o_istore 6 2) := (m_61 102).trans rfl
theorem t_61_104 {Ls : Nat} {xs : Nat → Int32} : am_tbl Ls xs 61 104 = some (o_push (.int 0) 1) := (m_61 104).trans rfl
set_option maxRecDepth 20000 in
theorem t_61_105 {Ls : Nat} {xs : Nat → Int32} : am_tbl Ls xs 61 105 = some (o_istore 7 2) := (m_61 105).trans rfl
set_option maxRecDepth 20000 in
theorem t_61_107 {Ls : Nat} {xs : Nat → Int32} : am_tbl Ls xs 61 107 = some (o_nrm [0, 1, 2, 3, 4, 5, 6, 7] (o_iload 7 2)) := (m_61 107).trans rfl
set_option maxRecDepth 20000 in
theorem t_61_109 {Ls : Nat} {xs : Nat → Int32} : am_tbl Ls xs 61 109 = some (o_aload 0 1) := (m_61 109).trans rfl
set_option maxRecDepth 20000 in
theorem t_61_110 {Ls : Nat} {xs : Nat → Int32} : am_tbl Ls xs 61 110 = some (o_get 9 8) := (m_61 110).trans rfl
set_option maxRecDepth 20000 in
theorem t_61_113 {Ls : Nat} {xs : Nat → Int32} : am_tbl Ls xs 61 113 = some (o_icmp (fun x y => decide (y ≤ x)) 171) := (m_61 113).trans rfl
set_option maxRecDepth 20000 in
theorem t_61_116 {Ls : Nat} {xs : Nat → Int32} : am_tbl Ls xs 61 116 = some (o_iload 6 2) := (m_61 116).trans rfl
set_option maxRecDepth 20000 in
theorem t_61_118 {Ls : Nat} {xs : Nat → Int32} : am_tbl Ls xs 61 118 = some (o_aload 0 1) := (m_61 118).trans rfl
set_option maxRecDepth 20000 in
theorem t_61_119 {Ls : Nat} {xs : Nat → Int32} : am_tbl Ls xs 61 119 = some (o_get 9 50) := (m_61 119).trans rfl
set_option maxRecDepth 20000 in
theorem t_61_122 {Ls : Nat} {xs : Nat → Int32} : am_tbl Ls xs 61 122 = some (o_iload 7 2) := (m_61 122).trans rfl
set_option maxRecDepth 20000 in
theorem t_61_124 {Ls : Nat} {xs : Nat → Int32} : am_tbl Ls xs 61 124 = some (o_iald 1) := (m_61 124).trans rfl
set_option maxRecDepth 20000 in
theorem t_61_125 {Ls : Nat} {xs : Nat → Int32} : am_tbl Ls xs 61 125 = some (o_if (fun x => decide (x < 0)) 161) := (m_61 125).trans rfl
set_option maxRecDepth 20000 in
theorem t_61_128 {Ls : Nat} {xs : Nat → Int32} : am_tbl Ls xs 61 128 = some (o_aload 0 1) := (m_61 128).trans rfl
set_option maxRecDepth 20000 in
theorem t_61_129 {Ls : Nat} {xs : Nat → Int32} : am_tbl Ls xs 61 129 = some (o_get 9 50) := (m_61 129).trans rfl
set_option maxRecDepth 20000 in
theorem t_61_132 {Ls : Nat} {xs : Nat → Int32} : am_tbl Ls xs 61 132 = some (o_iload 7 2) := (m_61 132).trans rfl
set_option maxRecDepth 20000 in
theorem t_61_134 {Ls : Nat} {xs : Nat → Int32} : am_tbl Ls xs 61 134 = some (o_iald 1) := (m_61 134).trans rfl
set_option maxRecDepth 20000 in
theorem t_61_135 {Ls : Nat} {xs : Nat → Int32} : am_tbl Ls xs 61 135 = some (o_iload 7 2) := (m_61 135).trans rfl
set_option maxRecDepth 20000 in
theorem t_61_137 {Ls : Nat} {xs : Nat → Int32} : am_tbl Ls xs 61 137 = some (o_icmp (fun x y => decide (y ≤ x)) 161) := (m_61 137).trans rfl
set_option maxRecDepth 20000 in
theorem t_61_140 {Ls : Nat} {xs : Nat → Int32} : am_tbl Ls xs 61 140 = some (o_aload 0 1) := (m_61 140).trans rfl
set_option maxRecDepth 20000 in
theorem t_61_141 {Ls : Nat} {xs : Nat → Int32} : am_tbl Ls xs 61 141 = some (o_get 9 49) := (m_61 141).trans rfl
set_option maxRecDepth 20000 in
theorem t_61_144 {Ls : Nat} {xs : Nat → Int32} : am_tbl Ls xs 61 144 = some (o_push (.int 6) 2) := (m_61 144).trans rfl
set_option maxRecDepth 20000 in
theorem t_61_146 {Ls : Nat} {xs : Nat → Int32} : am_tbl Ls xs 61 146 = some (o_iload 7 2) := (m_61 146).trans rfl
set_option maxRecDepth 20000 in
theorem t_61_148 {Ls : Nat} {xs : Nat → Int32} : am_tbl Ls xs 61 148 = some (o_ibin (fun x y => x * y)) := (m_61 148).trans rfl
set_option maxRecDepth 20000 in
theorem t_61_149 {Ls : Nat} {xs : Nat → Int32} : am_tbl Ls xs 61 149 = some (o_aload 0 1) := (m_61 149).trans rfl
set_option maxRecDepth 20000 in
theorem t_61_150 {Ls : Nat} {xs : Nat → Int32} : am_tbl Ls xs 61 150 = some (o_get 9 50) := (m_61 150).trans rfl
set_option maxRecDepth 20000 in
theorem t_61_153 {Ls : Nat} {xs : Nat → Int32} : am_tbl Ls xs 61 153 = some (o_iload 7 2) := (m_61 153).trans rfl
set_option maxRecDepth 20000 in
theorem t_61_155 {Ls : Nat} {xs : Nat → Int32} : am_tbl Ls xs 61 155 = some (o_iald 1) := (m_61 155).trans rfl
set_option maxRecDepth 20000 in
theorem t_61_156 {Ls : Nat} {xs : Nat → Int32} : am_tbl Ls xs 61 156 = some (o_ibin (fun x y => x + y)) := (m_61 156).trans rfl
set_option maxRecDepth 20000 in
theorem t_61_157 {Ls : Nat} {xs : Nat → Int32} : am_tbl Ls xs 61 157 = some (o_iald 1) := (m_61 157).trans rfl
set_option maxRecDepth 20000 in
theorem t_61_158 {Ls : Nat} {xs : Nat → Int32} : am_tbl Ls xs 61 158 = some (o_goto 162) := (m_61 158).trans rfl
set_option maxRecDepth 20000 in
theorem t_61_161 {Ls : Nat} {xs : Nat → Int32} : am_tbl Ls xs 61 161 = some (o_nrm [0, 1, 2, 3, 4, 5, 7] (o_push (.int 0) 1)) := (m_61 161).trans rfl
set_option maxRecDepth 20000 in
theorem t_61_162 {Ls : Nat} {xs : Nat → Int32} : am_tbl Ls xs 61 162 = some (o_nrm [0, 1, 2, 3, 4, 5, 7] (o_ibin (fun x y => x + y))) := (m_61 162).trans rfl
set_option maxRecDepth 20000 in
theorem t_61_163 {Ls : Nat} {xs : Nat → Int32} : am_tbl Ls xs 61 163 = some (o_istore 6 2) := (m_61 163).trans rfl
set_option maxRecDepth 20000 in
theorem t_61_165 {Ls : Nat} {xs : Nat → Int32} : am_tbl Ls xs 61 165 = some (o_iinc 7 1) := (m_61 165).trans rfl
set_option maxRecDepth 20000 in
theorem t_61_168 {Ls : Nat} {xs : Nat → Int32} : am_tbl Ls xs 61 168 = some (o_goto 107) := (m_61 168).trans rfl
set_option maxRecDepth 20000 in
theorem t_61_171 {Ls : Nat} {xs : Nat → Int32} : am_tbl Ls xs 61 171 = some (o_iload 3 1) := (m_61 171).trans rfl
set_option maxRecDepth 20000 in
theorem t_61_172 {Ls : Nat} {xs : Nat → Int32} : am_tbl Ls xs 61 172 = some (o_if (fun x => decide (x = 0)) 182) := (m_61 172).trans rfl
set_option maxRecDepth 20000 in
theorem t_61_175 {Ls : Nat} {xs : Nat → Int32} : am_tbl Ls xs 61 175 = some (o_iload 6 2) := (m_61 175).trans rfl
set_option maxRecDepth 20000 in
theorem t_61_177 {Ls : Nat} {xs : Nat → Int32} : am_tbl Ls xs 61 177 = some (o_iload 4 2) := (m_61 177).trans rfl
set_option maxRecDepth 20000 in
theorem t_61_179 {Ls : Nat} {xs : Nat → Int32} : am_tbl Ls xs 61 179 = some (o_icmp (fun x y => decide (x ≤ y)) 220) := (m_61 179).trans rfl
set_option maxRecDepth 20000 in
theorem t_61_182 {Ls : Nat} {xs : Nat → Int32} : am_tbl Ls xs 61 182 = some (o_nrm [0, 1, 2, 5, 6] (o_push (.int 1) 1)) := (m_61 182).trans rfl
set_option maxRecDepth 20000 in
theorem t_61_183 {Ls : Nat} {xs : Nat → Int32} : am_tbl Ls xs 61 183 = some (o_istore 3 1) := (m_61 183).trans rfl
set_option maxRecDepth 20000 in
theorem t_61_184 {Ls : Nat} {xs : Nat → Int32} : am_tbl Ls xs 61 184 = some (o_iload 6 2) := (m_61 184).trans rfl
set_option maxRecDepth 20000 in
theorem t_61_186 {Ls : Nat} {xs : Nat → Int32} : am_tbl Ls xs 61 186 = some (o_istore 4 2) := (m_61 186).trans rfl
set_option maxRecDepth 20000 in
theorem t_61_188 {Ls : Nat} {xs : Nat → Int32} : am_tbl Ls xs 61 188 = some (o_push (.int 0) 1) := (m_61 188).trans rfl
set_option maxRecDepth 20000 in
theorem t_61_189 {Ls : Nat} {xs : Nat → Int32} : am_tbl Ls xs 61 189 = some (o_istore 7 2) := (m_61 189).trans rfl
set_option maxRecDepth 20000 in
theorem t_61_191 {Ls : Nat} {xs : Nat → Int32} : am_tbl Ls xs 61 191 = some (o_nrm [0, 1, 2, 3, 4, 5, 7] (o_iload 7 2)) := (m_61 191).trans rfl
set_option maxRecDepth 20000 in
theorem t_61_193 {Ls : Nat} {xs : Nat → Int32} : am_tbl Ls xs 61 193 = some (o_aload 0 1) := (m_61 193).trans rfl
set_option maxRecDepth 20000 in
theorem t_61_194 {Ls : Nat} {xs : Nat → Int32} : am_tbl Ls xs 61 194 = some (o_get 9 8) := (m_61 194).trans rfl
set_option maxRecDepth 20000 in
theorem t_61_197 {Ls : Nat} {xs : Nat → Int32} : am_tbl Ls xs 61 197 = some (o_icmp (fun x y => decide (y ≤ x)) 220) := (m_61 197).trans rfl
set_option maxRecDepth 20000 in
theorem t_61_200 {Ls : Nat} {xs : Nat → Int32} : am_tbl Ls xs 61 200 = some (o_aload 0 1) := (m_61 200).trans rfl
set_option maxRecDepth 20000 in
theorem t_61_201 {Ls : Nat} {xs : Nat → Int32} : am_tbl Ls xs 61 201 = some (o_get 9 51) := (m_61 201).trans rfl
set_option maxRecDepth 20000 in
theorem t_61_204 {Ls : Nat} {xs : Nat → Int32} : am_tbl Ls xs 61 204 = some (o_iload 7 2) := (m_61 204).trans rfl
set_option maxRecDepth 20000 in
theorem t_61_206 {Ls : Nat} {xs : Nat → Int32} : am_tbl Ls xs 61 206 = some (o_aload 0 1) := (m_61 206).trans rfl
set_option maxRecDepth 20000 in
theorem t_61_207 {Ls : Nat} {xs : Nat → Int32} : am_tbl Ls xs 61 207 = some (o_get 9 50) := (m_61 207).trans rfl
set_option maxRecDepth 20000 in
theorem t_61_210 {Ls : Nat} {xs : Nat → Int32} : am_tbl Ls xs 61 210 = some (o_iload 7 2) := (m_61 210).trans rfl
set_option maxRecDepth 20000 in
theorem t_61_212 {Ls : Nat} {xs : Nat → Int32} : am_tbl Ls xs 61 212 = some (o_iald 1) := (m_61 212).trans rfl
set_option maxRecDepth 20000 in
theorem t_61_213 {Ls : Nat} {xs : Nat → Int32} : am_tbl Ls xs 61 213 = some (o_iast 1 (fun x => x)) := (m_61 213).trans rfl
set_option maxRecDepth 20000 in
theorem t_61_214 {Ls : Nat} {xs : Nat → Int32} : am_tbl Ls xs 61 214 = some (o_iinc 7 1) := (m_61 214).trans rfl
set_option maxRecDepth 20000 in
theorem t_61_217 {Ls : Nat} {xs : Nat → Int32} : am_tbl Ls xs 61 217 = some (o_goto 191) := (m_61 217).trans rfl
set_option maxRecDepth 20000 in
theorem t_61_220 {Ls : Nat} {xs : Nat → Int32} : am_tbl Ls xs 61 220 = some (o_nrm [0, 1, 2, 3, 4, 5] (o_iinc 5 1)) := (m_61 220).trans rfl
set_option maxRecDepth 20000 in
theorem t_61_223 {Ls : Nat} {xs : Nat → Int32} : am_tbl Ls xs 61 223 = some (o_goto 86) := (m_61 223).trans rfl
set_option maxRecDepth 20000 in
theorem t_61_226 {Ls : Nat} {xs : Nat → Int32} : am_tbl Ls xs 61 226 = some (o_iload 1 1) := (m_61 226).trans rfl
set_option maxRecDepth 20000 in
theorem t_61_227 {Ls : Nat} {xs : Nat → Int32} : am_tbl Ls xs 61 227 = some (o_push (.int (-1)) 1) := (m_61 227).trans rfl
set_option maxRecDepth 20000 in
theorem t_61_228 {Ls : Nat} {xs : Nat → Int32} : am_tbl Ls xs 61 228 = some (o_icmp (fun x y => decide (x ≠ y)) 236) := (m_61 228).trans rfl
set_option maxRecDepth 20000 in
theorem t_61_231 {Ls : Nat} {xs : Nat → Int32} : am_tbl Ls xs 61 231 = some (o_iload 4 2) := (m_61 231).trans rfl
set_option maxRecDepth 20000 in
theorem t_61_233 {Ls : Nat} {xs : Nat → Int32} : am_tbl Ls xs 61 233 = some (o_goto 242) := (m_61 233).trans rfl
set_option maxRecDepth 20000 in
theorem t_61_236 {Ls : Nat} {xs : Nat → Int32} : am_tbl Ls xs 61 236 = some (o_aload 0 1) := (m_61 236).trans rfl
set_option maxRecDepth 20000 in
theorem t_61_237 {Ls : Nat} {xs : Nat → Int32} : am_tbl Ls xs 61 237 = some (o_get 9 51) := (m_61 237).trans rfl
set_option maxRecDepth 20000 in
theorem t_61_240 {Ls : Nat} {xs : Nat → Int32} : am_tbl Ls xs 61 240 = some (o_iload 1 1) := (m_61 240).trans rfl
set_option maxRecDepth 20000 in
theorem t_61_241 {Ls : Nat} {xs : Nat → Int32} : am_tbl Ls xs 61 241 = some (o_iald 1) := (m_61 241).trans rfl
set_option maxRecDepth 20000 in
theorem t_61_242 {Ls : Nat} {xs : Nat → Int32} : am_tbl Ls xs 61 242 = some (o_nrm [] (o_iret)) := (m_61 242).trans rfl
theorem m_62 {Ls : Nat} {xs : Nat → Int32} (pc : Nat) : am_tbl Ls xs 62 pc = am_lk (op_X9_isFree) pc := rfl
theorem t_62_0 {Ls : Nat} {xs : Nat → Int32} : am_tbl Ls xs 62 0 = some (o_aload 0 1) := (m_62 0).trans rfl
theorem t_62_1 {Ls : Nat} {xs : Nat → Int32} : am_tbl Ls xs 62 1 = some (o_get 9 2) := (m_62 1).trans rfl
theorem t_62_4 {Ls : Nat} {xs : Nat → Int32} : am_tbl Ls xs 62 4 = some (o_iload 1 1) := (m_62 4).trans rfl
theorem t_62_5 {Ls : Nat} {xs : Nat → Int32} : am_tbl Ls xs 62 5 = some (o_iald 1) := (m_62 5).trans rfl
theorem t_62_6 {Ls : Nat} {xs : Nat → Int32} : am_tbl Ls xs 62 6 = some (o_if (fun x => decide (x ≠ 0)) 21) := (m_62 6).trans rfl
theorem t_62_9 {Ls : Nat} {xs : Nat → Int32} : am_tbl Ls xs 62 9 = some (o_aload 0 1) := (m_62 9).trans rfl
theorem t_62_10 {Ls : Nat} {xs : Nat → Int32} : am_tbl Ls xs 62 10 = some (o_iload 1 1) := (m_62 10).trans rfl
theorem t_62_11 {Ls : Nat} {xs : Nat → Int32} : am_tbl Ls xs 62 11 = some (o_callv 45 1 9 4) := (m_62 11).trans rfl
theorem t_62_14 {Ls : Nat} {xs : Nat → Int32} : am_tbl Ls xs 62 14 = some (o_if (fun x => decide (x ≠ 0)) 21) := (m_62 14).trans rfl
theorem t_62_17 {Ls : Nat} {xs : Nat → Int32} : am_tbl Ls xs 62 17 = some (o_push (.int 1) 1) := (m_62 17).trans rfl
theorem t_62_18 {Ls : Nat} {xs : Nat → Int32} : am_tbl Ls xs 62 18 = some (o_goto 22) := (m_62 18).trans rfl
theorem t_62_21 {Ls : Nat} {xs : Nat → Int32} : am_tbl Ls xs 62 21 = some (o_nrm [] (o_push (.int 0) 1)) := (m_62 21).trans rfl
theorem t_62_22 {Ls : Nat} {xs : Nat → Int32} : am_tbl Ls xs 62 22 = some (o_nrm [] (o_zret)) := (m_62 22).trans rfl
theorem m_63 {Ls : Nat} {xs : Nat → Int32} (pc : Nat) : am_tbl Ls xs 63 pc = am_lk (op_X9_wall) pc := rfl
theorem t_63_0 {Ls : Nat} {xs : Nat → Int32} : am_tbl Ls xs 63 0 = some (o_aload 0 1) := (m_63 0).trans rfl
theorem t_63_1 {Ls : Nat} {xs : Nat → Int32} : am_tbl Ls xs 63 1 = some (o_iload 1 1) := (m_63 1).trans rfl
theorem t_63_2 {Ls : Nat} {xs : Nat → Int32} : am_tbl Ls xs 63 2 = some (o_iload 2 1) := (m_63 2).trans rfl
theorem t_63_3 {Ls : Nat} {xs : Nat → Int32} : am_tbl Ls xs 63 3 = some (o_callv 4 2 9 3) := (m_63 3).trans rfl
theorem t_63_6 {Ls : Nat} {xs : Nat → Int32} : am_tbl Ls xs 63 6 = some (o_if (fun x => decide (x ≠ 0)) 13) := (m_63 6).trans rfl
theorem t_63_9 {Ls : Nat} {xs : Nat → Int32} : am_tbl Ls xs 63 9 = some (o_push (.int (-1000000001)) 3) := (m_63 9).trans rfl
theorem t_63_12 {Ls : Nat} {xs : Nat → Int32} : am_tbl Ls xs 63 12 = some (o_iret) := (m_63 12).trans rfl
theorem t_63_13 {Ls : Nat} {xs : Nat → Int32} : am_tbl Ls xs 63 13 = some (o_iload 3 1) := (m_63 13).trans rfl
theorem t_63_14 {Ls : Nat} {xs : Nat → Int32} : am_tbl Ls xs 63 14 = some (o_i2l) := (m_63 14).trans rfl
theorem t_63_15 {Ls : Nat} {xs : Nat → Int32} : am_tbl Ls xs 63 15 = some (o_push (.long 1) 1) := (m_63 15).trans rfl
theorem t_63_16 {Ls : Nat} {xs : Nat → Int32} : am_tbl Ls xs 63 16 = some (o_push (.long 9) 3) := (m_63 16).trans rfl
theorem t_63_19 {Ls : Nat} {xs : Nat → Int32} : am_tbl Ls xs 63 19 = some (o_calls 1 3 6) := (m_63 19).trans rfl
theorem t_63_22 {Ls : Nat} {xs : Nat → Int32} : am_tbl Ls xs 63 22 = some (o_if (fun x => decide (x ≠ 0)) 28) := (m_63 22).trans rfl
theorem t_63_25 {Ls : Nat} {xs : Nat → Int32} : am_tbl Ls xs 63 25 = some (o_push (.int (-1000000002)) 2) := (m_63 25).trans rfl
theorem t_63_27 {Ls : Nat} {xs : Nat → Int32} : am_tbl Ls xs 63 27 = some (o_iret) := (m_63 27).trans rfl
theorem t_63_28 {Ls : Nat} {xs : Nat → Int32} : am_tbl Ls xs 63 28 = some (o_aload 0 1) := (m_63 28).trans rfl
theorem t_63_29 {Ls : Nat} {xs : Nat → Int32} : am_tbl Ls xs 63 29 = some (o_get 9 0) := (m_63 29).trans rfl
theorem t_63_32 {Ls : Nat} {xs : Nat → Int32} : am_tbl Ls xs 63 32 = some (o_iload 2 1) := (m_63 32).trans rfl
theorem t_63_33 {Ls : Nat} {xs : Nat → Int32} : am_tbl Ls xs 63 33 = some (o_ibin (fun x y => x * y)) := (m_63 33).trans rfl
theorem t_63_34 {Ls : Nat} {xs : Nat → Int32} : am_tbl Ls xs 63 34 = some (o_iload 1 1) := (m_63 34).trans rfl
theorem t_63_35 {Ls : Nat} {xs : Nat → Int32} : am_tbl Ls xs 63 35 = some (o_ibin (fun x y => x + y)) := (m_63 35).trans rfl
theorem t_63_36 {Ls : Nat} {xs : Nat → Int32} : am_tbl Ls xs 63 36 = some (o_istore 4 2) := (m_63 36).trans rfl
theorem t_63_38 {Ls : Nat} {xs : Nat → Int32} : am_tbl Ls xs 63 38 = some (o_aload 0 1) := (m_63 38).trans rfl
theorem t_63_39 {Ls : Nat} {xs : Nat → Int32} : am_tbl Ls xs 63 39 = some (o_iload 4 2) := (m_63 39).trans rfl
theorem t_63_41 {Ls : Nat} {xs : Nat → Int32} : am_tbl Ls xs 63 41 = some (o_callv 62 1 9 2) := (m_63 41).trans rfl
theorem t_63_44 {Ls : Nat} {xs : Nat → Int32} : am_tbl Ls xs 63 44 = some (o_if (fun x => decide (x ≠ 0)) 51) := (m_63 44).trans rfl
theorem t_63_47 {Ls : Nat} {xs : Nat → Int32} : am_tbl Ls xs 63 47 = some (o_push (.int (-1000000003)) 3) := (m_63 47).trans rfl
theorem t_63_50 {Ls : Nat} {xs : Nat → Int32} : am_tbl Ls xs 63 50 = some (o_iret) := (m_63 50).trans rfl
theorem t_63_51 {Ls : Nat} {xs : Nat → Int32} : am_tbl Ls xs 63 51 = some (o_aload 0 1) := (m_63 51).trans rfl
theorem t_63_52 {Ls : Nat} {xs : Nat → Int32} : am_tbl Ls xs 63 52 = some (o_callv 35 0 9 3) := (m_63 52).trans rfl
theorem t_63_55 {Ls : Nat} {xs : Nat → Int32} : am_tbl Ls xs 63 55 = some (o_istore 5 2) := (m_63 55).trans rfl
theorem t_63_57 {Ls : Nat} {xs : Nat → Int32} : am_tbl Ls xs 63 57 = some (o_aload 0 1) := (m_63 57).trans rfl
theorem t_63_58 {Ls : Nat} {xs : Nat → Int32} : am_tbl Ls xs 63 58 = some (o_get 9 2) := (m_63 58).trans rfl
theorem t_63_61 {Ls : Nat} {xs : Nat → Int32} : am_tbl Ls xs 63 61 = some (o_iload 4 2) := (m_63 61).trans rfl
theorem t_63_63 {Ls : Nat} {xs : Nat → Int32} : am_tbl Ls xs 63 63 = some (o_iload 3 1) := (m_63 63).trans rfl
theorem t_63_64 {Ls : Nat} {xs : Nat → Int32} : am_tbl Ls xs 63 64 = some (o_iast 1 (fun x => x)) := (m_63 64).trans rfl
theorem t_63_65 {Ls : Nat} {xs : Nat → Int32} : am_tbl Ls xs 63 65 = some (o_aload 0 1) := (m_63 65).trans rfl
theorem t_63_66 {Ls : Nat} {xs : Nat → Int32} : am_tbl Ls xs 63 66 = some (o_callv 35 0 9 3) := (m_63 66).trans rfl
theorem t_63_69 {Ls : Nat} {xs : Nat → Int32} : am_tbl Ls xs 63 69 = some (o_istore 6 2) := (m_63 69).trans rfl
theorem t_63_71 {Ls : Nat} {xs : Nat → Int32} : am_tbl Ls xs 63 71 = some (o_aload 0 1) := (m_63 71).trans rfl
theorem t_63_72 {Ls : Nat} {xs : Nat → Int32} : am_tbl Ls xs 63 72 = some (o_get 9 2) := (m_63 72).trans rfl
theorem t_63_75 {Ls : Nat} {xs : Nat → Int32} : am_tbl Ls xs 63 75 = some (o_iload 4 2) := (m_63 75).trans rfl
theorem t_63_77 {Ls : Nat} {xs : Nat → Int32} : am_tbl Ls xs 63 77 = some (o_push (.int 0) 1) := (m_63 77).trans rfl
theorem t_63_78 {Ls : Nat} {xs : Nat → Int32} : am_tbl Ls xs 63 78 = some (o_iast 1 (fun x => x)) := (m_63 78).trans rfl
theorem t_63_79 {Ls : Nat} {xs : Nat → Int32} : am_tbl Ls xs 63 79 = some (o_iload 5 2) := (m_63 79).trans rfl
theorem t_63_81 {Ls : Nat} {xs : Nat → Int32} : am_tbl Ls xs 63 81 = some (o_iload 6 2) := (m_63 81).trans rfl
theorem t_63_83 {Ls : Nat} {xs : Nat → Int32} : am_tbl Ls xs 63 83 = some (o_ibin (fun x y => x - y)) := (m_63 83).trans rfl
theorem t_63_84 {Ls : Nat} {xs : Nat → Int32} : am_tbl Ls xs 63 84 = some (o_iret) := (m_63 84).trans rfl
theorem m_64 {Ls : Nat} {xs : Nat → Int32} (pc : Nat) : am_tbl Ls xs 64 pc = am_lk (op_X9_bestWall) pc := rfl
theorem t_64_0 {Ls : Nat} {xs : Nat → Int32} : am_tbl Ls xs 64 0 = some (o_aload 0 1) := (m_64 0).trans rfl
theorem t_64_1 {Ls : Nat} {xs : Nat → Int32} : am_tbl Ls xs 64 1 = some (o_iload 2 1) := (m_64 1).trans rfl
theorem t_64_2 {Ls : Nat} {xs : Nat → Int32} : am_tbl Ls xs 64 2 = some (o_callv 5 1 9 2) := (m_64 2).trans rfl
theorem t_64_5 {Ls : Nat} {xs : Nat → Int32} : am_tbl Ls xs 64 5 = some (o_if (fun x => decide (x ≠ 0)) 12) := (m_64 5).trans rfl
theorem t_64_8 {Ls : Nat} {xs : Nat → Int32} : am_tbl Ls xs 64 8 = some (o_push (.int (-1000000001)) 3) := (m_64 8).trans rfl
theorem t_64_11 {Ls : Nat} {xs : Nat → Int32} : am_tbl Ls xs 64 11 = some (o_iret) := (m_64 11).trans rfl
theorem t_64_12 {Ls : Nat} {xs : Nat → Int32} : am_tbl Ls xs 64 12 = some (o_iload 1 1) := (m_64 12).trans rfl
theorem t_64_13 {Ls : Nat} {xs : Nat → Int32} : am_tbl Ls xs 64 13 = some (o_i2l) := (m_64 13).trans rfl
theorem t_64_14 {Ls : Nat} {xs : Nat → Int32} : am_tbl Ls xs 64 14 = some (o_push (.long 1) 1) := (m_64 14).trans rfl
theorem t_64_15 {Ls : Nat} {xs : Nat → Int32} : am_tbl Ls xs 64 15 = some (o_push (.long 9) 3) := (m_64 15).trans rfl
theorem t_64_18 {Ls : Nat} {xs : Nat → Int32} : am_tbl Ls xs 64 18 = some (o_calls 1 3 6) := (m_64 18).trans rfl
theorem t_64_21 {Ls : Nat} {xs : Nat → Int32} : am_tbl Ls xs 64 21 = some (o_if (fun x => decide (x = 0)) 34) := (m_64 21).trans rfl
theorem t_64_24 {Ls : Nat} {xs : Nat → Int32} : am_tbl Ls xs 64 24 = some (o_iload 3 1) := (m_64 24).trans rfl
theorem t_64_25 {Ls : Nat} {xs : Nat → Int32} : am_tbl Ls xs 64 25 = some (o_i2l) := (m_64 25).trans rfl
theorem t_64_26 {Ls : Nat} {xs : Nat → Int32} : am_tbl Ls xs 64 26 = some (o_push (.long 0) 1) := (m_64 26).trans rfl
theorem t_64_27 {Ls : Nat} {xs : Nat → Int32} : am_tbl Ls xs 64 27 = some (o_push (.long 1) 1) := (m_64 27).trans rfl
theorem t_64_28 {Ls : Nat} {xs : Nat → Int32} : am_tbl Ls xs 64 28 = some (o_calls 1 3 6) := (m_64 28).trans rfl
theorem t_64_31 {Ls : Nat} {xs : Nat → Int32} : am_tbl Ls xs 64 31 = some (o_if (fun x => decide (x ≠ 0)) 37) := (m_64 31).trans rfl
theorem t_64_34 {Ls : Nat} {xs : Nat → Int32} : am_tbl Ls xs 64 34 = some (o_nrm [] (o_push (.int (-1000000002)) 2)) := (m_64 34).trans rfl
theorem t_64_36 {Ls : Nat} {xs : Nat → Int32} : am_tbl Ls xs 64 36 = some (o_iret) := (m_64 36).trans rfl
theorem t_64_37 {Ls : Nat} {xs : Nat → Int32} : am_tbl Ls xs 64 37 = some (o_push (.int (-1)) 1) := (m_64 37).trans rfl
theorem t_64_38 {Ls : Nat} {xs : Nat → Int32} : am_tbl Ls xs 64 38 = some (o_istore 4 2) := (m_64 38).trans rfl
theorem t_64_40 {Ls : Nat} {xs : Nat → Int32} : am_tbl Ls xs 64 40 = some (o_push (.int 0) 1) := (m_64 40).trans rfl
theorem t_64_41 {Ls : Nat} {xs : Nat → Int32} : am_tbl Ls xs 64 41 = some (o_istore 5 2) := (m_64 41).trans rfl
theorem t_64_43 {Ls : Nat} {xs : Nat → Int32} : am_tbl Ls xs 64 43 = some (o_push (.int 0) 1) := (m_64 43).trans rfl
theorem t_64_44 {Ls : Nat} {xs : Nat → Int32} : am_tbl Ls xs 64 44 = some (o_istore 6 2) := (m_64 44).trans rfl
theorem t_64_46 {Ls : Nat} {xs : Nat → Int32} : am_tbl Ls xs 64 46 = some (o_nrm [0, 1, 2, 3, 4, 5, 6] (o_iload 6 2)) := (m_64 46).trans rfl
theorem t_64_48 {Ls : Nat} {xs : Nat → Int32} : am_tbl Ls xs 64 48 = some (o_aload 0 1) := (m_64 48).trans rfl
theorem t_64_49 {Ls : Nat} {xs : Nat → Int32} : am_tbl Ls xs 64 49 = some (o_callv 7 0 9 1) := (m_64 49).trans rfl
theorem t_64_52 {Ls : Nat} {xs : Nat → Int32} : am_tbl Ls xs 64 52 = some (o_icmp (fun x y => decide (y ≤ x)) 151) := (m_64 52).trans rfl
theorem t_64_55 {Ls : Nat} {xs : Nat → Int32} : am_tbl Ls xs 64 55 = some (o_aload 0 1) := (m_64 55).trans rfl
theorem t_64_56 {Ls : Nat} {xs : Nat → Int32} : am_tbl Ls xs 64 56 = some (o_iload 6 2) := (m_64 56).trans rfl
theorem t_64_58 {Ls : Nat} {xs : Nat → Int32} : am_tbl Ls xs 64 58 = some (o_callv 62 1 9 2) := (m_64 58).trans rfl
theorem t_64_61 {Ls : Nat} {xs : Nat → Int32} : am_tbl Ls xs 64 61 = some (o_if (fun x => decide (x = 0)) 145) := (m_64 61).trans rfl
theorem t_64_64 {Ls : Nat} {xs : Nat → Int32} : am_tbl Ls xs 64 64 = some (o_aload 0 1) := (m_64 64).trans rfl
theorem t_64_65 {Ls : Nat} {xs : Nat → Int32} : am_tbl Ls xs 64 65 = some (o_get 9 2) := (m_64 65).trans rfl
theorem t_64_68 {Ls : Nat} {xs : Nat → Int32} : am_tbl Ls xs 64 68 = some (o_iload 6 2) := (m_64 68).trans rfl
theorem t_64_70 {Ls : Nat} {xs : Nat → Int32} : am_tbl Ls xs 64 70 = some (o_iload 1 1) := (m_64 70).trans rfl
theorem t_64_71 {Ls : Nat} {xs : Nat → Int32} : am_tbl Ls xs 64 71 = some (o_iast 1 (fun x => x)) := (m_64 71).trans rfl
theorem t_64_72 {Ls : Nat} {xs : Nat → Int32} : am_tbl Ls xs 64 72 = some (o_iload 3 1) := (m_64 72).trans rfl
theorem t_64_73 {Ls : Nat} {xs : Nat → Int32} : am_tbl Ls xs 64 73 = some (o_if (fun x => decide (x ≠ 0)) 83) := (m_64 73).trans rfl
theorem t_64_76 {Ls : Nat} {xs : Nat → Int32} : am_tbl Ls xs 64 76 = some (o_aload 0 1) := (m_64 76).trans rfl
theorem t_64_77 {Ls : Nat} {xs : Nat → Int32} : am_tbl Ls xs 64 77 = some (o_callv 35 0 9 3) := (m_64 77).trans rfl
theorem t_64_80 {Ls : Nat} {xs : Nat → Int32} : am_tbl Ls xs 64 80 = some (o_goto 88) := (m_64 80).trans rfl
theorem t_64_83 {Ls : Nat} {xs : Nat → Int32} : am_tbl Ls xs 64 83 = some (o_aload 0 1) := (m_64 83).trans rfl
theorem t_64_84 {Ls : Nat} {xs : Nat → Int32} : am_tbl Ls xs 64 84 = some (o_iload 2 1) := (m_64 84).trans rfl
theorem t_64_85 {Ls : Nat} {xs : Nat → Int32} : am_tbl Ls xs 64 85 = some (o_callv 33 1 9 4) := (m_64 85).trans rfl
theorem t_64_88 {Ls : Nat} {xs : Nat → Int32} : am_tbl Ls xs 64 88 = some (o_nrm [0, 1, 2, 3, 4, 5, 6] (o_istore 7 2)) := (m_64 88).trans rfl
theorem t_64_90 {Ls : Nat} {xs : Nat → Int32} : am_tbl Ls xs 64 90 = some (o_aload 0 1) := (m_64 90).trans rfl
theorem t_64_91 {Ls : Nat} {xs : Nat → Int32} : am_tbl Ls xs 64 91 = some (o_get 9 2) := (m_64 91).trans rfl
theorem t_64_94 {Ls : Nat} {xs : Nat → Int32} : am_tbl Ls xs 64 94 = some (o_iload 6 2) := (m_64 94).trans rfl
theorem t_64_96 {Ls : Nat} {xs : Nat → Int32} : am_tbl Ls xs 64 96 = some (o_push (.int 0) 1) := (m_64 96).trans rfl
theorem t_64_97 {Ls : Nat} {xs : Nat → Int32} : am_tbl Ls xs 64 97 = some (o_iast 1 (fun x => x)) := (m_64 97).trans rfl
theorem t_64_98 {Ls : Nat} {xs : Nat → Int32} : am_tbl Ls xs 64 98 = some (o_iload 4 2) := (m_64 98).trans rfl
theorem t_64_100 {Ls : Nat} {xs : Nat → Int32} : am_tbl Ls xs 64 100 = some (o_if (fun x => decide (x < 0)) 110) := (m_64 100).trans rfl
theorem t_64_103 {Ls : Nat} {xs : Nat → Int32} : am_tbl Ls xs 64 103 = some (o_iload 7 2) := (m_64 103).trans rfl
theorem t_64_105 {Ls : Nat} {xs : Nat → Int32} : am_tbl Ls xs 64 105 = some (o_iload 5 2) := (m_64 105).trans rfl
theorem t_64_107 {Ls : Nat} {xs : Nat → Int32} : am_tbl Ls xs 64 107 = some (o_icmp (fun x y => decide (y ≤ x)) 114) := (m_64 107).trans rfl
theorem t_64_110 {Ls : Nat} {xs : Nat → Int32} : am_tbl Ls xs 64 110 = some (o_nrm [0, 1, 2, 3, 4, 5, 6, 7] (o_push (.int 1) 1)) := (m_64 110).trans rfl
theorem t_64_111 {Ls : Nat} {xs : Nat → Int32} : am_tbl Ls xs 64 111 = some (o_goto 115) := (m_64 111).trans rfl
theorem t_64_114 {Ls : Nat} {xs : Nat → Int32} : am_tbl Ls xs 64 114 = some (o_push (.int 0) 1) := (m_64 114).trans rfl
set_option maxRecDepth 20000 in
theorem t_64_115 {Ls : Nat} {xs : Nat → Int32} : am_tbl Ls xs 64 115 = some (o_nrm [0, 1, 2, 3, 4, 5, 6, 7] (o_istore 8 2)) := (m_64 115).trans rfl
set_option maxRecDepth 20000 in
theorem t_64_117 {Ls : Nat} {xs : Nat → Int32} : am_tbl Ls xs 64 117 = some (o_iload 8 2) := (m_64 117).trans rfl
set_option maxRecDepth 20000 in
theorem t_64_119 {Ls : Nat} {xs : Nat → Int32} : am_tbl Ls xs 64 119 = some (o_if (fun x => decide (x = 0)) 127) := (m_64 119).trans rfl
set_option maxRecDepth 20000 in
theorem t_64_122 {Ls : Nat} {xs : Nat → Int32} : am_tbl Ls xs 64 122 = some (o_iload 6 2) := (m_64 122).trans rfl
set_option maxRecDepth 20000 in
theorem t_64_124 {Ls : Nat} {xs : Nat → Int32} : am_tbl Ls xs 64 124 = some (o_goto 129) := (m_64 124).trans rfl
set_option maxRecDepth 20000 in
theorem t_64_127 {Ls : Nat} {xs : Nat → Int32} : am_tbl Ls xs 64 127 = some (o_iload 4 2) := (m_64 127).trans rfl
set_option maxRecDepth 20000 in
theorem t_64_129 {Ls : Nat} {xs : Nat → Int32} : am_tbl Ls xs 64 129 = some (o_nrm [0, 1, 2, 3, 5, 6, 7, 8] (o_istore 4 2)) := (m_64 129).trans rfl
set_option maxRecDepth 20000 in
theorem t_64_131 {Ls : Nat} {xs : Nat → Int32} : am_tbl Ls xs 64 131 = some (o_iload 8 2) := (m_64 131).trans rfl
set_option maxRecDepth 20000 in
theorem t_64_133 {Ls : Nat} {xs : Nat → Int32} : am_tbl Ls xs 64 133 = some (o_if (fun x => decide (x = 0)) 141) := (m_64 133).trans rfl
set_option maxRecDepth 20000 in
theorem t_64_136 {Ls : Nat} {xs : Nat → Int32} : am_tbl Ls xs 64 136 = some (o_iload 7 2) := (m_64 136).trans rfl
set_option maxRecDepth 20000 in
theorem t_64_138 {Ls : Nat} {xs : Nat → Int32} : am_tbl Ls xs 64 138 = some (o_goto 143) := (m_64 138).trans rfl
set_option maxRecDepth 20000 in
theorem t_64_141 {Ls : Nat} {xs : Nat → Int32} : am_tbl Ls xs 64 141 = some (o_iload 5 2) := (m_64 141).trans rfl
set_option maxRecDepth 20000 in
theorem t_64_143 {Ls : Nat} {xs : Nat → Int32} : am_tbl Ls xs 64 143 = some (o_nrm [0, 1, 2, 3, 4, 6] (o_istore 5 2)) := (m_64 143).trans rfl
set_option maxRecDepth 20000 in
theorem t_64_145 {Ls : Nat} {xs : Nat → Int32} : am_tbl Ls xs 64 145 = some (o_nrm [0, 1, 2, 3, 4, 5, 6] (o_iinc 6 1)) := (m_64 145).trans rfl
set_option maxRecDepth 20000 in
theorem t_64_148 {Ls : Nat} {xs : Nat → Int32} : am_tbl Ls xs 64 148 = some (o_goto 46) := (m_64 148).trans rfl
set_option maxRecDepth 20000 in
theorem t_64_151 {Ls : Nat} {xs : Nat → Int32} : am_tbl Ls xs 64 151 = some (o_iload 4 2) := (m_64 151).trans rfl
set_option maxRecDepth 20000 in
theorem t_64_153 {Ls : Nat} {xs : Nat → Int32} : am_tbl Ls xs 64 153 = some (o_if (fun x => decide (0 ≤ x)) 160) := (m_64 153).trans rfl
set_option maxRecDepth 20000 in
theorem t_64_156 {Ls : Nat} {xs : Nat → Int32} : am_tbl Ls xs 64 156 = some (o_push (.int (-1)) 1) := (m_64 156).trans rfl
set_option maxRecDepth 20000 in
theorem t_64_157 {Ls : Nat} {xs : Nat → Int32} : am_tbl Ls xs 64 157 = some (o_goto 166) := (m_64 157).trans rfl
set_option maxRecDepth 20000 in
theorem t_64_160 {Ls : Nat} {xs : Nat → Int32} : am_tbl Ls xs 64 160 = some (o_aload 0 1) := (m_64 160).trans rfl
set_option maxRecDepth 20000 in
theorem t_64_161 {Ls : Nat} {xs : Nat → Int32} : am_tbl Ls xs 64 161 = some (o_iload 4 2) := (m_64 161).trans rfl
set_option maxRecDepth 20000 in
theorem t_64_163 {Ls : Nat} {xs : Nat → Int32} : am_tbl Ls xs 64 163 = some (o_callv 8 1 9 2) := (m_64 163).trans rfl
set_option maxRecDepth 20000 in
theorem t_64_166 {Ls : Nat} {xs : Nat → Int32} : am_tbl Ls xs 64 166 = some (o_nrm [] (o_iret)) := (m_64 166).trans rfl
theorem m_65 {Ls : Nat} {xs : Nat → Int32} (pc : Nat) : am_tbl Ls xs 65 pc = am_lk (op_X9_richest) pc := rfl
theorem t_65_0 {Ls : Nat} {xs : Nat → Int32} : am_tbl Ls xs 65 0 = some (o_iload 1 1) := (m_65 0).trans rfl
theorem t_65_1 {Ls : Nat} {xs : Nat → Int32} : am_tbl Ls xs 65 1 = some (o_i2l) := (m_65 1).trans rfl
theorem t_65_2 {Ls : Nat} {xs : Nat → Int32} : am_tbl Ls xs 65 2 = some (o_push (.long 0) 1) := (m_65 2).trans rfl
theorem t_65_3 {Ls : Nat} {xs : Nat → Int32} : am_tbl Ls xs 65 3 = some (o_push (.long 1) 1) := (m_65 3).trans rfl
theorem t_65_4 {Ls : Nat} {xs : Nat → Int32} : am_tbl Ls xs 65 4 = some (o_calls 1 3 6) := (m_65 4).trans rfl
theorem t_65_7 {Ls : Nat} {xs : Nat → Int32} : am_tbl Ls xs 65 7 = some (o_if (fun x => decide (x ≠ 0)) 13) := (m_65 7).trans rfl
theorem t_65_10 {Ls : Nat} {xs : Nat → Int32} : am_tbl Ls xs 65 10 = some (o_push (.int (-1000000002)) 2) := (m_65 10).trans rfl
theorem t_65_12 {Ls : Nat} {xs : Nat → Int32} : am_tbl Ls xs 65 12 = some (o_iret) := (m_65 12).trans rfl
theorem t_65_13 {Ls : Nat} {xs : Nat → Int32} : am_tbl Ls xs 65 13 = some (o_push (.int (-1)) 1) := (m_65 13).trans rfl
theorem t_65_14 {Ls : Nat} {xs : Nat → Int32} : am_tbl Ls xs 65 14 = some (o_istore 2 1) := (m_65 14).trans rfl
theorem t_65_15 {Ls : Nat} {xs : Nat → Int32} : am_tbl Ls xs 65 15 = some (o_push (.int 0) 1) := (m_65 15).trans rfl
theorem t_65_16 {Ls : Nat} {xs : Nat → Int32} : am_tbl Ls xs 65 16 = some (o_istore 3 1) := (m_65 16).trans rfl
theorem t_65_17 {Ls : Nat} {xs : Nat → Int32} : am_tbl Ls xs 65 17 = some (o_push (.int 0) 1) := (m_65 17).trans rfl
theorem t_65_18 {Ls : Nat} {xs : Nat → Int32} : am_tbl Ls xs 65 18 = some (o_istore 4 2) := (m_65 18).trans rfl
theorem t_65_20 {Ls : Nat} {xs : Nat → Int32} : am_tbl Ls xs 65 20 = some (o_nrm [0, 1, 2, 3, 4] (o_iload 4 2)) := (m_65 20).trans rfl
theorem t_65_22 {Ls : Nat} {xs : Nat → Int32} : am_tbl Ls xs 65 22 = some (o_aload 0 1) := (m_65 22).trans rfl
theorem t_65_23 {Ls : Nat} {xs : Nat → Int32} : am_tbl Ls xs 65 23 = some (o_get 9 3) := (m_65 23).trans rfl
theorem t_65_26 {Ls : Nat} {xs : Nat → Int32} : am_tbl Ls xs 65 26 = some (o_icmp (fun x y => decide (y ≤ x)) 110) := (m_65 26).trans rfl
theorem t_65_29 {Ls : Nat} {xs : Nat → Int32} : am_tbl Ls xs 65 29 = some (o_push (.int 0) 1) := (m_65 29).trans rfl
theorem t_65_30 {Ls : Nat} {xs : Nat → Int32} : am_tbl Ls xs 65 30 = some (o_istore 5 2) := (m_65 30).trans rfl
theorem t_65_32 {Ls : Nat} {xs : Nat → Int32} : am_tbl Ls xs 65 32 = some (o_push (.int 0) 1) := (m_65 32).trans rfl
theorem t_65_33 {Ls : Nat} {xs : Nat → Int32} : am_tbl Ls xs 65 33 = some (o_istore 6 2) := (m_65 33).trans rfl
theorem t_65_35 {Ls : Nat} {xs : Nat → Int32} : am_tbl Ls xs 65 35 = some (o_nrm [0, 1, 2, 3, 4, 5, 6] (o_iload 6 2)) := (m_65 35).trans rfl
theorem t_65_37 {Ls : Nat} {xs : Nat → Int32} : am_tbl Ls xs 65 37 = some (o_aload 0 1) := (m_65 37).trans rfl
theorem t_65_38 {Ls : Nat} {xs : Nat → Int32} : am_tbl Ls xs 65 38 = some (o_get 9 8) := (m_65 38).trans rfl
theorem t_65_41 {Ls : Nat} {xs : Nat → Int32} : am_tbl Ls xs 65 41 = some (o_icmp (fun x y => decide (y ≤ x)) 63) := (m_65 41).trans rfl
theorem t_65_44 {Ls : Nat} {xs : Nat → Int32} : am_tbl Ls xs 65 44 = some (o_iload 5 2) := (m_65 44).trans rfl
theorem t_65_46 {Ls : Nat} {xs : Nat → Int32} : am_tbl Ls xs 65 46 = some (o_aload 0 1) := (m_65 46).trans rfl
theorem t_65_47 {Ls : Nat} {xs : Nat → Int32} : am_tbl Ls xs 65 47 = some (o_iload 6 2) := (m_65 47).trans rfl
theorem t_65_49 {Ls : Nat} {xs : Nat → Int32} : am_tbl Ls xs 65 49 = some (o_iload 4 2) := (m_65 49).trans rfl
theorem t_65_51 {Ls : Nat} {xs : Nat → Int32} : am_tbl Ls xs 65 51 = some (o_callv 32 2 9 8) := (m_65 51).trans rfl
theorem t_65_54 {Ls : Nat} {xs : Nat → Int32} : am_tbl Ls xs 65 54 = some (o_ibin (fun x y => x + y)) := (m_65 54).trans rfl
theorem t_65_55 {Ls : Nat} {xs : Nat → Int32} : am_tbl Ls xs 65 55 = some (o_istore 5 2) := (m_65 55).trans rfl
theorem t_65_57 {Ls : Nat} {xs : Nat → Int32} : am_tbl Ls xs 65 57 = some (o_iinc 6 1) := (m_65 57).trans rfl
theorem t_65_60 {Ls : Nat} {xs : Nat → Int32} : am_tbl Ls xs 65 60 = some (o_goto 35) := (m_65 60).trans rfl
theorem t_65_63 {Ls : Nat} {xs : Nat → Int32} : am_tbl Ls xs 65 63 = some (o_iload 2 1) := (m_65 63).trans rfl
theorem t_65_64 {Ls : Nat} {xs : Nat → Int32} : am_tbl Ls xs 65 64 = some (o_if (fun x => decide (x < 0)) 73) := (m_65 64).trans rfl
theorem t_65_67 {Ls : Nat} {xs : Nat → Int32} : am_tbl Ls xs 65 67 = some (o_iload 5 2) := (m_65 67).trans rfl
theorem t_65_69 {Ls : Nat} {xs : Nat → Int32} : am_tbl Ls xs 65 69 = some (o_iload 3 1) := (m_65 69).trans rfl
theorem t_65_70 {Ls : Nat} {xs : Nat → Int32} : am_tbl Ls xs 65 70 = some (o_icmp (fun x y => decide (x ≤ y)) 77) := (m_65 70).trans rfl
theorem t_65_73 {Ls : Nat} {xs : Nat → Int32} : am_tbl Ls xs 65 73 = some (o_nrm [0, 1, 2, 3, 4, 5] (o_push (.int 1) 1)) := (m_65 73).trans rfl
theorem t_65_74 {Ls : Nat} {xs : Nat → Int32} : am_tbl Ls xs 65 74 = some (o_goto 78) := (m_65 74).trans rfl
theorem t_65_77 {Ls : Nat} {xs : Nat → Int32} : am_tbl Ls xs 65 77 = some (o_push (.int 0) 1) := (m_65 77).trans rfl
theorem t_65_78 {Ls : Nat} {xs : Nat → Int32} : am_tbl Ls xs 65 78 = some (o_nrm [0, 1, 2, 3, 4, 5] (o_istore 6 2)) := (m_65 78).trans rfl
theorem t_65_80 {Ls : Nat} {xs : Nat → Int32} : am_tbl Ls xs 65 80 = some (o_iload 6 2) := (m_65 80).trans rfl
theorem t_65_82 {Ls : Nat} {xs : Nat → Int32} : am_tbl Ls xs 65 82 = some (o_if (fun x => decide (x = 0)) 90) := (m_65 82).trans rfl
theorem t_65_85 {Ls : Nat} {xs : Nat → Int32} : am_tbl Ls xs 65 85 = some (o_iload 4 2) := (m_65 85).trans rfl
theorem t_65_87 {Ls : Nat} {xs : Nat → Int32} : am_tbl Ls xs 65 87 = some (o_goto 91) := (m_65 87).trans rfl
theorem t_65_90 {Ls : Nat} {xs : Nat → Int32} : am_tbl Ls xs 65 90 = some (o_iload 2 1) := (m_65 90).trans rfl
theorem t_65_91 {Ls : Nat} {xs : Nat → Int32} : am_tbl Ls xs 65 91 = some (o_nrm [0, 1, 3, 4, 5, 6] (o_istore 2 1)) := (m_65 91).trans rfl
theorem t_65_92 {Ls : Nat} {xs : Nat → Int32} : am_tbl Ls xs 65 92 = some (o_iload 6 2) := (m_65 92).trans rfl
theorem t_65_94 {Ls : Nat} {xs : Nat → Int32} : am_tbl Ls xs 65 94 = some (o_if (fun x => decide (x = 0)) 102) := (m_65 94).trans rfl
theorem t_65_97 {Ls : Nat} {xs : Nat → Int32} : am_tbl Ls xs 65 97 = some (o_iload 5 2) := (m_65 97).trans rfl
theorem t_65_99 {Ls : Nat} {xs : Nat → Int32} : am_tbl Ls xs 65 99 = some (o_goto 103) := (m_65 99).trans rfl
theorem t_65_102 {Ls : Nat} {xs : Nat → Int32} : am_tbl Ls xs 65 102 = some (o_iload 3 1) := (m_65 102).trans rfl
theorem t_65_103 {Ls : Nat} {xs : Nat → Int32} : am_tbl Ls xs 65 103 = some (o_nrm [0, 1, 2, 4] (o_istore 3 1)) := (m_65 103).trans rfl
theorem t_65_104 {Ls : Nat} {xs : Nat → Int32} : am_tbl Ls xs 65 104 = some (o_iinc 4 1) := (m_65 104).trans rfl
theorem t_65_107 {Ls : Nat} {xs : Nat → Int32} : am_tbl Ls xs 65 107 = some (o_goto 20) := (m_65 107).trans rfl
theorem t_65_110 {Ls : Nat} {xs : Nat → Int32} : am_tbl Ls xs 65 110 = some (o_iload 2 1) := (m_65 110).trans rfl
theorem t_65_111 {Ls : Nat} {xs : Nat → Int32} : am_tbl Ls xs 65 111 = some (o_if (fun x => decide (x < 0)) 118) := (m_65 111).trans rfl
theorem t_65_114 {Ls : Nat} {xs : Nat → Int32} : am_tbl Ls xs 65 114 = some (o_iload 1 1) := (m_65 114).trans rfl
set_option maxRecDepth 20000 in
theorem t_65_115 {Ls : Nat} {xs : Nat → Int32} : am_tbl Ls xs 65 115 = some (o_if (fun x => decide (x ≠ 0)) 122) := (m_65 115).trans rfl
set_option maxRecDepth 20000 in
theorem t_65_118 {Ls : Nat} {xs : Nat → Int32} : am_tbl Ls xs 65 118 = some (o_nrm [2] (o_iload 2 1)) := (m_65 118).trans rfl
set_option maxRecDepth 20000 in
theorem t_65_119 {Ls : Nat} {xs : Nat → Int32} : am_tbl Ls xs 65 119 = some (o_goto 123) := (m_65 119).trans rfl
set_option maxRecDepth 20000 in
theorem t_65_122 {Ls : Nat} {xs : Nat → Int32} : am_tbl Ls xs 65 122 = some (o_iload 3 1) := (m_65 122).trans rfl
set_option maxRecDepth 20000 in
theorem t_65_123 {Ls : Nat} {xs : Nat → Int32} : am_tbl Ls xs 65 123 = some (o_nrm [] (o_iret)) := (m_65 123).trans rfl
theorem m_66 {Ls : Nat} {xs : Nat → Int32} (pc : Nat) : am_tbl Ls xs 66 pc = am_lk (op_X9_tell) pc := rfl
theorem t_66_0 {Ls : Nat} {xs : Nat → Int32} : am_tbl Ls xs 66 0 = some (o_aload 0 1) := (m_66 0).trans rfl
theorem t_66_1 {Ls : Nat} {xs : Nat → Int32} : am_tbl Ls xs 66 1 = some (o_iload 1 1) := (m_66 1).trans rfl
theorem t_66_2 {Ls : Nat} {xs : Nat → Int32} : am_tbl Ls xs 66 2 = some (o_callv 6 1 9 2) := (m_66 2).trans rfl
theorem t_66_5 {Ls : Nat} {xs : Nat → Int32} : am_tbl Ls xs 66 5 = some (o_if (fun x => decide (x ≠ 0)) 12) := (m_66 5).trans rfl
theorem t_66_8 {Ls : Nat} {xs : Nat → Int32} : am_tbl Ls xs 66 8 = some (o_push (.int (-1000000001)) 3) := (m_66 8).trans rfl
theorem t_66_11 {Ls : Nat} {xs : Nat → Int32} : am_tbl Ls xs 66 11 = some (o_iret) := (m_66 11).trans rfl
theorem t_66_12 {Ls : Nat} {xs : Nat → Int32} : am_tbl Ls xs 66 12 = some (o_iload 2 1) := (m_66 12).trans rfl
theorem t_66_13 {Ls : Nat} {xs : Nat → Int32} : am_tbl Ls xs 66 13 = some (o_i2l) := (m_66 13).trans rfl
theorem t_66_14 {Ls : Nat} {xs : Nat → Int32} : am_tbl Ls xs 66 14 = some (o_push (.long 0) 1) := (m_66 14).trans rfl
theorem t_66_15 {Ls : Nat} {xs : Nat → Int32} : am_tbl Ls xs 66 15 = some (o_push (.long 99) 3) := (m_66 15).trans rfl
theorem t_66_18 {Ls : Nat} {xs : Nat → Int32} : am_tbl Ls xs 66 18 = some (o_calls 1 3 6) := (m_66 18).trans rfl
theorem t_66_21 {Ls : Nat} {xs : Nat → Int32} : am_tbl Ls xs 66 21 = some (o_if (fun x => decide (x ≠ 0)) 27) := (m_66 21).trans rfl
theorem t_66_24 {Ls : Nat} {xs : Nat → Int32} : am_tbl Ls xs 66 24 = some (o_push (.int (-1000000002)) 2) := (m_66 24).trans rfl
theorem t_66_26 {Ls : Nat} {xs : Nat → Int32} : am_tbl Ls xs 66 26 = some (o_iret) := (m_66 26).trans rfl
theorem t_66_27 {Ls : Nat} {xs : Nat → Int32} : am_tbl Ls xs 66 27 = some (o_aload 0 1) := (m_66 27).trans rfl
theorem t_66_28 {Ls : Nat} {xs : Nat → Int32} : am_tbl Ls xs 66 28 = some (o_get 9 52) := (m_66 28).trans rfl
theorem t_66_31 {Ls : Nat} {xs : Nat → Int32} : am_tbl Ls xs 66 31 = some (o_push (.int 10) 2) := (m_66 31).trans rfl
theorem t_66_33 {Ls : Nat} {xs : Nat → Int32} : am_tbl Ls xs 66 33 = some (o_icmp (fun x y => decide (x ≠ y)) 39) := (m_66 33).trans rfl
theorem t_66_36 {Ls : Nat} {xs : Nat → Int32} : am_tbl Ls xs 66 36 = some (o_push (.int (-1000000004)) 2) := (m_66 36).trans rfl
theorem t_66_38 {Ls : Nat} {xs : Nat → Int32} : am_tbl Ls xs 66 38 = some (o_iret) := (m_66 38).trans rfl
theorem t_66_39 {Ls : Nat} {xs : Nat → Int32} : am_tbl Ls xs 66 39 = some (o_aload 0 1) := (m_66 39).trans rfl
theorem t_66_40 {Ls : Nat} {xs : Nat → Int32} : am_tbl Ls xs 66 40 = some (o_get 9 53) := (m_66 40).trans rfl
theorem t_66_43 {Ls : Nat} {xs : Nat → Int32} : am_tbl Ls xs 66 43 = some (o_aload 0 1) := (m_66 43).trans rfl
theorem t_66_44 {Ls : Nat} {xs : Nat → Int32} : am_tbl Ls xs 66 44 = some (o_get 9 52) := (m_66 44).trans rfl
theorem t_66_47 {Ls : Nat} {xs : Nat → Int32} : am_tbl Ls xs 66 47 = some (o_iload 1 1) := (m_66 47).trans rfl
theorem t_66_48 {Ls : Nat} {xs : Nat → Int32} : am_tbl Ls xs 66 48 = some (o_iast 1 (fun x => x)) := (m_66 48).trans rfl
theorem t_66_49 {Ls : Nat} {xs : Nat → Int32} : am_tbl Ls xs 66 49 = some (o_aload 0 1) := (m_66 49).trans rfl
theorem t_66_50 {Ls : Nat} {xs : Nat → Int32} : am_tbl Ls xs 66 50 = some (o_get 9 54) := (m_66 50).trans rfl
theorem t_66_53 {Ls : Nat} {xs : Nat → Int32} : am_tbl Ls xs 66 53 = some (o_aload 0 1) := (m_66 53).trans rfl
theorem t_66_54 {Ls : Nat} {xs : Nat → Int32} : am_tbl Ls xs 66 54 = some (o_get 9 52) := (m_66 54).trans rfl
theorem t_66_57 {Ls : Nat} {xs : Nat → Int32} : am_tbl Ls xs 66 57 = some (o_iload 2 1) := (m_66 57).trans rfl
theorem t_66_58 {Ls : Nat} {xs : Nat → Int32} : am_tbl Ls xs 66 58 = some (o_iast 1 (fun x => x)) := (m_66 58).trans rfl
theorem t_66_59 {Ls : Nat} {xs : Nat → Int32} : am_tbl Ls xs 66 59 = some (o_aload 0 1) := (m_66 59).trans rfl
theorem t_66_60 {Ls : Nat} {xs : Nat → Int32} : am_tbl Ls xs 66 60 = some (o_dup) := (m_66 60).trans rfl
theorem t_66_61 {Ls : Nat} {xs : Nat → Int32} : am_tbl Ls xs 66 61 = some (o_get 9 52) := (m_66 61).trans rfl
theorem t_66_64 {Ls : Nat} {xs : Nat → Int32} : am_tbl Ls xs 66 64 = some (o_push (.int 1) 1) := (m_66 64).trans rfl
theorem t_66_65 {Ls : Nat} {xs : Nat → Int32} : am_tbl Ls xs 66 65 = some (o_ibin (fun x y => x + y)) := (m_66 65).trans rfl
theorem t_66_66 {Ls : Nat} {xs : Nat → Int32} : am_tbl Ls xs 66 66 = some (o_puti 9 52) := (m_66 66).trans rfl
theorem t_66_69 {Ls : Nat} {xs : Nat → Int32} : am_tbl Ls xs 66 69 = some (o_aload 0 1) := (m_66 69).trans rfl
theorem t_66_70 {Ls : Nat} {xs : Nat → Int32} : am_tbl Ls xs 66 70 = some (o_get 9 52) := (m_66 70).trans rfl
theorem t_66_73 {Ls : Nat} {xs : Nat → Int32} : am_tbl Ls xs 66 73 = some (o_iret) := (m_66 73).trans rfl
theorem m_67 {Ls : Nat} {xs : Nat → Int32} (pc : Nat) : am_tbl Ls xs 67 pc = am_lk (op_X9_isAsTold) pc := rfl
theorem t_67_0 {Ls : Nat} {xs : Nat → Int32} : am_tbl Ls xs 67 0 = some (o_push (.int 1) 1) := (m_67 0).trans rfl
theorem t_67_1 {Ls : Nat} {xs : Nat → Int32} : am_tbl Ls xs 67 1 = some (o_istore 2 1) := (m_67 1).trans rfl
theorem t_67_2 {Ls : Nat} {xs : Nat → Int32} : am_tbl Ls xs 67 2 = some (o_push (.int 0) 1) := (m_67 2).trans rfl
theorem t_67_3 {Ls : Nat} {xs : Nat → Int32} : am_tbl Ls xs 67 3 = some (o_istore 3 1) := (m_67 3).trans rfl
theorem t_67_4 {Ls : Nat} {xs : Nat → Int32} : am_tbl Ls xs 67 4 = some (o_nrm [0, 1, 2, 3] (o_iload 3 1)) := (m_67 4).trans rfl
theorem t_67_5 {Ls : Nat} {xs : Nat → Int32} : am_tbl Ls xs 67 5 = some (o_aload 0 1) := (m_67 5).trans rfl
theorem t_67_6 {Ls : Nat} {xs : Nat → Int32} : am_tbl Ls xs 67 6 = some (o_get 9 52) := (m_67 6).trans rfl
theorem t_67_9 {Ls : Nat} {xs : Nat → Int32} : am_tbl Ls xs 67 9 = some (o_icmp (fun x y => decide (y ≤ x)) 48) := (m_67 9).trans rfl
theorem t_67_12 {Ls : Nat} {xs : Nat → Int32} : am_tbl Ls xs 67 12 = some (o_iload 2 1) := (m_67 12).trans rfl
theorem t_67_13 {Ls : Nat} {xs : Nat → Int32} : am_tbl Ls xs 67 13 = some (o_if (fun x => decide (x = 0)) 48) := (m_67 13).trans rfl
theorem t_67_16 {Ls : Nat} {xs : Nat → Int32} : am_tbl Ls xs 67 16 = some (o_aload 0 1) := (m_67 16).trans rfl
theorem t_67_17 {Ls : Nat} {xs : Nat → Int32} : am_tbl Ls xs 67 17 = some (o_iload 1 1) := (m_67 17).trans rfl
theorem t_67_18 {Ls : Nat} {xs : Nat → Int32} : am_tbl Ls xs 67 18 = some (o_aload 0 1) := (m_67 18).trans rfl
theorem t_67_19 {Ls : Nat} {xs : Nat → Int32} : am_tbl Ls xs 67 19 = some (o_get 9 53) := (m_67 19).trans rfl
theorem t_67_22 {Ls : Nat} {xs : Nat → Int32} : am_tbl Ls xs 67 22 = some (o_iload 3 1) := (m_67 22).trans rfl
theorem t_67_23 {Ls : Nat} {xs : Nat → Int32} : am_tbl Ls xs 67 23 = some (o_iald 1) := (m_67 23).trans rfl
theorem t_67_24 {Ls : Nat} {xs : Nat → Int32} : am_tbl Ls xs 67 24 = some (o_callv 32 2 9 8) := (m_67 24).trans rfl
theorem t_67_27 {Ls : Nat} {xs : Nat → Int32} : am_tbl Ls xs 67 27 = some (o_aload 0 1) := (m_67 27).trans rfl
theorem t_67_28 {Ls : Nat} {xs : Nat → Int32} : am_tbl Ls xs 67 28 = some (o_get 9 54) := (m_67 28).trans rfl
theorem t_67_31 {Ls : Nat} {xs : Nat → Int32} : am_tbl Ls xs 67 31 = some (o_iload 3 1) := (m_67 31).trans rfl
theorem t_67_32 {Ls : Nat} {xs : Nat → Int32} : am_tbl Ls xs 67 32 = some (o_iald 1) := (m_67 32).trans rfl
theorem t_67_33 {Ls : Nat} {xs : Nat → Int32} : am_tbl Ls xs 67 33 = some (o_icmp (fun x y => decide (x ≠ y)) 40) := (m_67 33).trans rfl
theorem t_67_36 {Ls : Nat} {xs : Nat → Int32} : am_tbl Ls xs 67 36 = some (o_push (.int 1) 1) := (m_67 36).trans rfl
theorem t_67_37 {Ls : Nat} {xs : Nat → Int32} : am_tbl Ls xs 67 37 = some (o_goto 41) := (m_67 37).trans rfl
theorem t_67_40 {Ls : Nat} {xs : Nat → Int32} : am_tbl Ls xs 67 40 = some (o_push (.int 0) 1) := (m_67 40).trans rfl
theorem t_67_41 {Ls : Nat} {xs : Nat → Int32} : am_tbl Ls xs 67 41 = some (o_nrm [0, 1, 3] (o_istore 2 1)) := (m_67 41).trans rfl
theorem t_67_42 {Ls : Nat} {xs : Nat → Int32} : am_tbl Ls xs 67 42 = some (o_iinc 3 1) := (m_67 42).trans rfl
theorem t_67_45 {Ls : Nat} {xs : Nat → Int32} : am_tbl Ls xs 67 45 = some (o_goto 4) := (m_67 45).trans rfl
theorem t_67_48 {Ls : Nat} {xs : Nat → Int32} : am_tbl Ls xs 67 48 = some (o_nrm [2] (o_iload 2 1)) := (m_67 48).trans rfl
theorem t_67_49 {Ls : Nat} {xs : Nat → Int32} : am_tbl Ls xs 67 49 = some (o_zret) := (m_67 49).trans rfl
theorem m_68 {Ls : Nat} {xs : Nat → Int32} (pc : Nat) : am_tbl Ls xs 68 pc = am_lk (op_X9_stood) pc := rfl
theorem t_68_0 {Ls : Nat} {xs : Nat → Int32} : am_tbl Ls xs 68 0 = some (o_aload 0 1) := (m_68 0).trans rfl
theorem t_68_1 {Ls : Nat} {xs : Nat → Int32} : am_tbl Ls xs 68 1 = some (o_iload 1 1) := (m_68 1).trans rfl
theorem t_68_2 {Ls : Nat} {xs : Nat → Int32} : am_tbl Ls xs 68 2 = some (o_callv 5 1 9 2) := (m_68 2).trans rfl
theorem t_68_5 {Ls : Nat} {xs : Nat → Int32} : am_tbl Ls xs 68 5 = some (o_if (fun x => decide (x ≠ 0)) 12) := (m_68 5).trans rfl
theorem t_68_8 {Ls : Nat} {xs : Nat → Int32} : am_tbl Ls xs 68 8 = some (o_push (.int (-1000000001)) 3) := (m_68 8).trans rfl
theorem t_68_11 {Ls : Nat} {xs : Nat → Int32} : am_tbl Ls xs 68 11 = some (o_iret) := (m_68 11).trans rfl
theorem t_68_12 {Ls : Nat} {xs : Nat → Int32} : am_tbl Ls xs 68 12 = some (o_aload 0 1) := (m_68 12).trans rfl
theorem t_68_13 {Ls : Nat} {xs : Nat → Int32} : am_tbl Ls xs 68 13 = some (o_get 9 9) := (m_68 13).trans rfl
theorem t_68_16 {Ls : Nat} {xs : Nat → Int32} : am_tbl Ls xs 68 16 = some (o_iload 1 1) := (m_68 16).trans rfl
theorem t_68_17 {Ls : Nat} {xs : Nat → Int32} : am_tbl Ls xs 68 17 = some (o_iald 1) := (m_68 17).trans rfl
theorem t_68_18 {Ls : Nat} {xs : Nat → Int32} : am_tbl Ls xs 68 18 = some (o_istore 3 1) := (m_68 18).trans rfl
theorem t_68_19 {Ls : Nat} {xs : Nat → Int32} : am_tbl Ls xs 68 19 = some (o_push (.int 0) 1) := (m_68 19).trans rfl
theorem t_68_20 {Ls : Nat} {xs : Nat → Int32} : am_tbl Ls xs 68 20 = some (o_istore 4 2) := (m_68 20).trans rfl
theorem t_68_22 {Ls : Nat} {xs : Nat → Int32} : am_tbl Ls xs 68 22 = some (o_push (.int (-1)) 1) := (m_68 22).trans rfl
theorem t_68_23 {Ls : Nat} {xs : Nat → Int32} : am_tbl Ls xs 68 23 = some (o_istore 5 2) := (m_68 23).trans rfl
theorem t_68_25 {Ls : Nat} {xs : Nat → Int32} : am_tbl Ls xs 68 25 = some (o_push (.int 0) 1) := (m_68 25).trans rfl
theorem t_68_26 {Ls : Nat} {xs : Nat → Int32} : am_tbl Ls xs 68 26 = some (o_istore 6 2) := (m_68 26).trans rfl
theorem t_68_28 {Ls : Nat} {xs : Nat → Int32} : am_tbl Ls xs 68 28 = some (o_nrm [0, 1, 2, 3, 4, 5, 6] (o_iload 6 2)) := (m_68 28).trans rfl
theorem t_68_30 {Ls : Nat} {xs : Nat → Int32} : am_tbl Ls xs 68 30 = some (o_aload 0 1) := (m_68 30).trans rfl
theorem t_68_31 {Ls : Nat} {xs : Nat → Int32} : am_tbl Ls xs 68 31 = some (o_callv 7 0 9 1) := (m_68 31).trans rfl
theorem t_68_34 {Ls : Nat} {xs : Nat → Int32} : am_tbl Ls xs 68 34 = some (o_icmp (fun x y => decide (y ≤ x)) 91) := (m_68 34).trans rfl
theorem t_68_37 {Ls : Nat} {xs : Nat → Int32} : am_tbl Ls xs 68 37 = some (o_aload 0 1) := (m_68 37).trans rfl
theorem t_68_38 {Ls : Nat} {xs : Nat → Int32} : am_tbl Ls xs 68 38 = some (o_get 9 9) := (m_68 38).trans rfl
theorem t_68_41 {Ls : Nat} {xs : Nat → Int32} : am_tbl Ls xs 68 41 = some (o_iload 1 1) := (m_68 41).trans rfl
theorem t_68_42 {Ls : Nat} {xs : Nat → Int32} : am_tbl Ls xs 68 42 = some (o_iload 6 2) := (m_68 42).trans rfl
theorem t_68_44 {Ls : Nat} {xs : Nat → Int32} : am_tbl Ls xs 68 44 = some (o_iast 1 (fun x => x)) := (m_68 44).trans rfl
theorem t_68_45 {Ls : Nat} {xs : Nat → Int32} : am_tbl Ls xs 68 45 = some (o_aload 0 1) := (m_68 45).trans rfl
theorem t_68_46 {Ls : Nat} {xs : Nat → Int32} : am_tbl Ls xs 68 46 = some (o_get 9 2) := (m_68 46).trans rfl
theorem t_68_49 {Ls : Nat} {xs : Nat → Int32} : am_tbl Ls xs 68 49 = some (o_iload 6 2) := (m_68 49).trans rfl
theorem t_68_51 {Ls : Nat} {xs : Nat → Int32} : am_tbl Ls xs 68 51 = some (o_iald 1) := (m_68 51).trans rfl
theorem t_68_52 {Ls : Nat} {xs : Nat → Int32} : am_tbl Ls xs 68 52 = some (o_if (fun x => decide (x ≠ 0)) 85) := (m_68 52).trans rfl
theorem t_68_55 {Ls : Nat} {xs : Nat → Int32} : am_tbl Ls xs 68 55 = some (o_aload 0 1) := (m_68 55).trans rfl
theorem t_68_56 {Ls : Nat} {xs : Nat → Int32} : am_tbl Ls xs 68 56 = some (o_iload 1 1) := (m_68 56).trans rfl
theorem t_68_57 {Ls : Nat} {xs : Nat → Int32} : am_tbl Ls xs 68 57 = some (o_callv 67 1 9 4) := (m_68 57).trans rfl
theorem t_68_60 {Ls : Nat} {xs : Nat → Int32} : am_tbl Ls xs 68 60 = some (o_if (fun x => decide (x = 0)) 85) := (m_68 60).trans rfl
theorem t_68_63 {Ls : Nat} {xs : Nat → Int32} : am_tbl Ls xs 68 63 = some (o_iload 4 2) := (m_68 63).trans rfl
theorem t_68_65 {Ls : Nat} {xs : Nat → Int32} : am_tbl Ls xs 68 65 = some (o_iload 2 1) := (m_68 65).trans rfl
theorem t_68_66 {Ls : Nat} {xs : Nat → Int32} : am_tbl Ls xs 68 66 = some (o_icmp (fun x y => decide (x ≠ y)) 78) := (m_68 66).trans rfl
theorem t_68_69 {Ls : Nat} {xs : Nat → Int32} : am_tbl Ls xs 68 69 = some (o_aload 0 1) := (m_68 69).trans rfl
theorem t_68_70 {Ls : Nat} {xs : Nat → Int32} : am_tbl Ls xs 68 70 = some (o_iload 6 2) := (m_68 70).trans rfl
theorem t_68_72 {Ls : Nat} {xs : Nat → Int32} : am_tbl Ls xs 68 72 = some (o_callv 8 1 9 2) := (m_68 72).trans rfl
theorem t_68_75 {Ls : Nat} {xs : Nat → Int32} : am_tbl Ls xs 68 75 = some (o_goto 80) := (m_68 75).trans rfl
theorem t_68_78 {Ls : Nat} {xs : Nat → Int32} : am_tbl Ls xs 68 78 = some (o_iload 5 2) := (m_68 78).trans rfl
theorem t_68_80 {Ls : Nat} {xs : Nat → Int32} : am_tbl Ls xs 68 80 = some (o_nrm [0, 1, 2, 3, 4, 6] (o_istore 5 2)) := (m_68 80).trans rfl
theorem t_68_82 {Ls : Nat} {xs : Nat → Int32} : am_tbl Ls xs 68 82 = some (o_iinc 4 1) := (m_68 82).trans rfl
theorem t_68_85 {Ls : Nat} {xs : Nat → Int32} : am_tbl Ls xs 68 85 = some (o_nrm [0, 1, 2, 3, 4, 5, 6] (o_iinc 6 1)) := (m_68 85).trans rfl
theorem t_68_88 {Ls : Nat} {xs : Nat → Int32} : am_tbl Ls xs 68 88 = some (o_goto 28) := (m_68 88).trans rfl
theorem t_68_91 {Ls : Nat} {xs : Nat → Int32} : am_tbl Ls xs 68 91 = some (o_aload 0 1) := (m_68 91).trans rfl
theorem t_68_92 {Ls : Nat} {xs : Nat → Int32} : am_tbl Ls xs 68 92 = some (o_get 9 9) := (m_68 92).trans rfl
theorem t_68_95 {Ls : Nat} {xs : Nat → Int32} : am_tbl Ls xs 68 95 = some (o_iload 1 1) := (m_68 95).trans rfl
theorem t_68_96 {Ls : Nat} {xs : Nat → Int32} : am_tbl Ls xs 68 96 = some (o_iload 3 1) := (m_68 96).trans rfl
theorem t_68_97 {Ls : Nat} {xs : Nat → Int32} : am_tbl Ls xs 68 97 = some (o_iast 1 (fun x => x)) := (m_68 97).trans rfl
theorem t_68_98 {Ls : Nat} {xs : Nat → Int32} : am_tbl Ls xs 68 98 = some (o_iload 2 1) := (m_68 98).trans rfl
theorem t_68_99 {Ls : Nat} {xs : Nat → Int32} : am_tbl Ls xs 68 99 = some (o_push (.int (-1)) 1) := (m_68 99).trans rfl
theorem t_68_100 {Ls : Nat} {xs : Nat → Int32} : am_tbl Ls xs 68 100 = some (o_icmp (fun x y => decide (x ≠ y)) 108) := (m_68 100).trans rfl
theorem t_68_103 {Ls : Nat} {xs : Nat → Int32} : am_tbl Ls xs 68 103 = some (o_iload 4 2) := (m_68 103).trans rfl
theorem t_68_105 {Ls : Nat} {xs : Nat → Int32} : am_tbl Ls xs 68 105 = some (o_goto 110) := (m_68 105).trans rfl
theorem t_68_108 {Ls : Nat} {xs : Nat → Int32} : am_tbl Ls xs 68 108 = some (o_iload 5 2) := (m_68 108).trans rfl
theorem t_68_110 {Ls : Nat} {xs : Nat → Int32} : am_tbl Ls xs 68 110 = some (o_nrm [] (o_iret)) := (m_68 110).trans rfl
theorem m_69 {Ls : Nat} {xs : Nat → Int32} (pc : Nat) : am_tbl Ls xs 69 pc = am_lk (op_X9_write) pc := rfl
theorem t_69_0 {Ls : Nat} {xs : Nat → Int32} : am_tbl Ls xs 69 0 = some (o_aload 0 1) := (m_69 0).trans rfl
theorem t_69_1 {Ls : Nat} {xs : Nat → Int32} : am_tbl Ls xs 69 1 = some (o_iload 1 1) := (m_69 1).trans rfl
theorem t_69_2 {Ls : Nat} {xs : Nat → Int32} : am_tbl Ls xs 69 2 = some (o_callv 6 1 9 2) := (m_69 2).trans rfl
theorem t_69_5 {Ls : Nat} {xs : Nat → Int32} : am_tbl Ls xs 69 5 = some (o_if (fun x => decide (x = 0)) 16) := (m_69 5).trans rfl
theorem t_69_8 {Ls : Nat} {xs : Nat → Int32} : am_tbl Ls xs 69 8 = some (o_aload 0 1) := (m_69 8).trans rfl
theorem t_69_9 {Ls : Nat} {xs : Nat → Int32} : am_tbl Ls xs 69 9 = some (o_iload 2 1) := (m_69 9).trans rfl
theorem t_69_10 {Ls : Nat} {xs : Nat → Int32} : am_tbl Ls xs 69 10 = some (o_callv 5 1 9 2) := (m_69 10).trans rfl
theorem t_69_13 {Ls : Nat} {xs : Nat → Int32} : am_tbl Ls xs 69 13 = some (o_if (fun x => decide (x ≠ 0)) 20) := (m_69 13).trans rfl
theorem t_69_16 {Ls : Nat} {xs : Nat → Int32} : am_tbl Ls xs 69 16 = some (o_nrm [] (o_push (.int (-1000000001)) 3)) := (m_69 16).trans rfl
theorem t_69_19 {Ls : Nat} {xs : Nat → Int32} : am_tbl Ls xs 69 19 = some (o_iret) := (m_69 19).trans rfl
theorem t_69_20 {Ls : Nat} {xs : Nat → Int32} : am_tbl Ls xs 69 20 = some (o_iload 3 1) := (m_69 20).trans rfl
theorem t_69_21 {Ls : Nat} {xs : Nat → Int32} : am_tbl Ls xs 69 21 = some (o_i2l) := (m_69 21).trans rfl
theorem t_69_22 {Ls : Nat} {xs : Nat → Int32} : am_tbl Ls xs 69 22 = some (o_push (.long 0) 1) := (m_69 22).trans rfl
theorem t_69_23 {Ls : Nat} {xs : Nat → Int32} : am_tbl Ls xs 69 23 = some (o_push (.long 99) 3) := (m_69 23).trans rfl
theorem t_69_26 {Ls : Nat} {xs : Nat → Int32} : am_tbl Ls xs 69 26 = some (o_calls 1 3 6) := (m_69 26).trans rfl
theorem t_69_29 {Ls : Nat} {xs : Nat → Int32} : am_tbl Ls xs 69 29 = some (o_if (fun x => decide (x ≠ 0)) 35) := (m_69 29).trans rfl
theorem t_69_32 {Ls : Nat} {xs : Nat → Int32} : am_tbl Ls xs 69 32 = some (o_push (.int (-1000000002)) 2) := (m_69 32).trans rfl
theorem t_69_34 {Ls : Nat} {xs : Nat → Int32} : am_tbl Ls xs 69 34 = some (o_iret) := (m_69 34).trans rfl
theorem t_69_35 {Ls : Nat} {xs : Nat → Int32} : am_tbl Ls xs 69 35 = some (o_aload 0 1) := (m_69 35).trans rfl
theorem t_69_36 {Ls : Nat} {xs : Nat → Int32} : am_tbl Ls xs 69 36 = some (o_get 9 55) := (m_69 36).trans rfl
theorem t_69_39 {Ls : Nat} {xs : Nat → Int32} : am_tbl Ls xs 69 39 = some (o_push (.int 30) 2) := (m_69 39).trans rfl
theorem t_69_41 {Ls : Nat} {xs : Nat → Int32} : am_tbl Ls xs 69 41 = some (o_icmp (fun x y => decide (x ≠ y)) 47) := (m_69 41).trans rfl
theorem t_69_44 {Ls : Nat} {xs : Nat → Int32} : am_tbl Ls xs 69 44 = some (o_push (.int (-1000000004)) 2) := (m_69 44).trans rfl
theorem t_69_46 {Ls : Nat} {xs : Nat → Int32} : am_tbl Ls xs 69 46 = some (o_iret) := (m_69 46).trans rfl
theorem t_69_47 {Ls : Nat} {xs : Nat → Int32} : am_tbl Ls xs 69 47 = some (o_aload 0 1) := (m_69 47).trans rfl
theorem t_69_48 {Ls : Nat} {xs : Nat → Int32} : am_tbl Ls xs 69 48 = some (o_get 9 56) := (m_69 48).trans rfl
theorem t_69_51 {Ls : Nat} {xs : Nat → Int32} : am_tbl Ls xs 69 51 = some (o_aload 0 1) := (m_69 51).trans rfl
theorem t_69_52 {Ls : Nat} {xs : Nat → Int32} : am_tbl Ls xs 69 52 = some (o_get 9 55) := (m_69 52).trans rfl
theorem t_69_55 {Ls : Nat} {xs : Nat → Int32} : am_tbl Ls xs 69 55 = some (o_iload 1 1) := (m_69 55).trans rfl
theorem t_69_56 {Ls : Nat} {xs : Nat → Int32} : am_tbl Ls xs 69 56 = some (o_iast 1 (fun x => x)) := (m_69 56).trans rfl
theorem t_69_57 {Ls : Nat} {xs : Nat → Int32} : am_tbl Ls xs 69 57 = some (o_aload 0 1) := (m_69 57).trans rfl
theorem t_69_58 {Ls : Nat} {xs : Nat → Int32} : am_tbl Ls xs 69 58 = some (o_get 9 57) := (m_69 58).trans rfl
theorem t_69_61 {Ls : Nat} {xs : Nat → Int32} : am_tbl Ls xs 69 61 = some (o_aload 0 1) := (m_69 61).trans rfl
theorem t_69_62 {Ls : Nat} {xs : Nat → Int32} : am_tbl Ls xs 69 62 = some (o_get 9 55) := (m_69 62).trans rfl
theorem t_69_65 {Ls : Nat} {xs : Nat → Int32} : am_tbl Ls xs 69 65 = some (o_iload 2 1) := (m_69 65).trans rfl
theorem t_69_66 {Ls : Nat} {xs : Nat → Int32} : am_tbl Ls xs 69 66 = some (o_iast 1 (fun x => x)) := (m_69 66).trans rfl
theorem t_69_67 {Ls : Nat} {xs : Nat → Int32} : am_tbl Ls xs 69 67 = some (o_aload 0 1) := (m_69 67).trans rfl
theorem t_69_68 {Ls : Nat} {xs : Nat → Int32} : am_tbl Ls xs 69 68 = some (o_get 9 58) := (m_69 68).trans rfl
theorem t_69_71 {Ls : Nat} {xs : Nat → Int32} : am_tbl Ls xs 69 71 = some (o_aload 0 1) := (m_69 71).trans rfl
theorem t_69_72 {Ls : Nat} {xs : Nat → Int32} : am_tbl Ls xs 69 72 = some (o_get 9 55) := (m_69 72).trans rfl
theorem t_69_75 {Ls : Nat} {xs : Nat → Int32} : am_tbl Ls xs 69 75 = some (o_iload 3 1) := (m_69 75).trans rfl
theorem t_69_76 {Ls : Nat} {xs : Nat → Int32} : am_tbl Ls xs 69 76 = some (o_iast 1 (fun x => x)) := (m_69 76).trans rfl
theorem t_69_77 {Ls : Nat} {xs : Nat → Int32} : am_tbl Ls xs 69 77 = some (o_aload 0 1) := (m_69 77).trans rfl
theorem t_69_78 {Ls : Nat} {xs : Nat → Int32} : am_tbl Ls xs 69 78 = some (o_dup) := (m_69 78).trans rfl
theorem t_69_79 {Ls : Nat} {xs : Nat → Int32} : am_tbl Ls xs 69 79 = some (o_get 9 55) := (m_69 79).trans rfl
theorem t_69_82 {Ls : Nat} {xs : Nat → Int32} : am_tbl Ls xs 69 82 = some (o_push (.int 1) 1) := (m_69 82).trans rfl
theorem t_69_83 {Ls : Nat} {xs : Nat → Int32} : am_tbl Ls xs 69 83 = some (o_ibin (fun x y => x + y)) := (m_69 83).trans rfl
theorem t_69_84 {Ls : Nat} {xs : Nat → Int32} : am_tbl Ls xs 69 84 = some (o_puti 9 55) := (m_69 84).trans rfl
theorem t_69_87 {Ls : Nat} {xs : Nat → Int32} : am_tbl Ls xs 69 87 = some (o_aload 0 1) := (m_69 87).trans rfl
theorem t_69_88 {Ls : Nat} {xs : Nat → Int32} : am_tbl Ls xs 69 88 = some (o_get 9 55) := (m_69 88).trans rfl
theorem t_69_91 {Ls : Nat} {xs : Nat → Int32} : am_tbl Ls xs 69 91 = some (o_iret) := (m_69 91).trans rfl
theorem m_70 {Ls : Nat} {xs : Nat → Int32} (pc : Nat) : am_tbl Ls xs 70 pc = am_lk (op_X9_tear) pc := rfl
theorem t_70_0 {Ls : Nat} {xs : Nat → Int32} : am_tbl Ls xs 70 0 = some (o_aload 0 1) := (m_70 0).trans rfl
theorem t_70_1 {Ls : Nat} {xs : Nat → Int32} : am_tbl Ls xs 70 1 = some (o_get 9 55) := (m_70 1).trans rfl
theorem t_70_4 {Ls : Nat} {xs : Nat → Int32} : am_tbl Ls xs 70 4 = some (o_aload 0 1) := (m_70 4).trans rfl
theorem t_70_5 {Ls : Nat} {xs : Nat → Int32} : am_tbl Ls xs 70 5 = some (o_get 9 52) := (m_70 5).trans rfl
theorem t_70_8 {Ls : Nat} {xs : Nat → Int32} : am_tbl Ls xs 70 8 = some (o_ibin (fun x y => x + y)) := (m_70 8).trans rfl
theorem t_70_9 {Ls : Nat} {xs : Nat → Int32} : am_tbl Ls xs 70 9 = some (o_aload 0 1) := (m_70 9).trans rfl
theorem t_70_10 {Ls : Nat} {xs : Nat → Int32} : am_tbl Ls xs 70 10 = some (o_get 9 43) := (m_70 10).trans rfl
theorem t_70_13 {Ls : Nat} {xs : Nat → Int32} : am_tbl Ls xs 70 13 = some (o_ibin (fun x y => x + y)) := (m_70 13).trans rfl
theorem t_70_14 {Ls : Nat} {xs : Nat → Int32} : am_tbl Ls xs 70 14 = some (o_istore 1 1) := (m_70 14).trans rfl
theorem t_70_15 {Ls : Nat} {xs : Nat → Int32} : am_tbl Ls xs 70 15 = some (o_aload 0 1) := (m_70 15).trans rfl
theorem t_70_16 {Ls : Nat} {xs : Nat → Int32} : am_tbl Ls xs 70 16 = some (o_push (.int 0) 1) := (m_70 16).trans rfl
theorem t_70_17 {Ls : Nat} {xs : Nat → Int32} : am_tbl Ls xs 70 17 = some (o_puti 9 55) := (m_70 17).trans rfl
theorem t_70_20 {Ls : Nat} {xs : Nat → Int32} : am_tbl Ls xs 70 20 = some (o_aload 0 1) := (m_70 20).trans rfl
theorem t_70_21 {Ls : Nat} {xs : Nat → Int32} : am_tbl Ls xs 70 21 = some (o_push (.int 0) 1) := (m_70 21).trans rfl
theorem t_70_22 {Ls : Nat} {xs : Nat → Int32} : am_tbl Ls xs 70 22 = some (o_puti 9 52) := (m_70 22).trans rfl
theorem t_70_25 {Ls : Nat} {xs : Nat → Int32} : am_tbl Ls xs 70 25 = some (o_aload 0 1) := (m_70 25).trans rfl
theorem t_70_26 {Ls : Nat} {xs : Nat → Int32} : am_tbl Ls xs 70 26 = some (o_push (.int 0) 1) := (m_70 26).trans rfl
theorem t_70_27 {Ls : Nat} {xs : Nat → Int32} : am_tbl Ls xs 70 27 = some (o_puti 9 43) := (m_70 27).trans rfl
theorem t_70_30 {Ls : Nat} {xs : Nat → Int32} : am_tbl Ls xs 70 30 = some (o_iload 1 1) := (m_70 30).trans rfl
theorem t_70_31 {Ls : Nat} {xs : Nat → Int32} : am_tbl Ls xs 70 31 = some (o_iret) := (m_70 31).trans rfl
theorem m_71 {Ls : Nat} {xs : Nat → Int32} (pc : Nat) : am_tbl Ls xs 71 pc = am_lk (op_X9_judge) pc := rfl
theorem t_71_0 {Ls : Nat} {xs : Nat → Int32} : am_tbl Ls xs 71 0 = some (o_push (.int 0) 1) := (m_71 0).trans rfl
theorem t_71_1 {Ls : Nat} {xs : Nat → Int32} : am_tbl Ls xs 71 1 = some (o_istore 1 1) := (m_71 1).trans rfl
theorem t_71_2 {Ls : Nat} {xs : Nat → Int32} : am_tbl Ls xs 71 2 = some (o_nrm [0, 1] (o_iload 1 1)) := (m_71 2).trans rfl
theorem t_71_3 {Ls : Nat} {xs : Nat → Int32} : am_tbl Ls xs 71 3 = some (o_aload 0 1) := (m_71 3).trans rfl
theorem t_71_4 {Ls : Nat} {xs : Nat → Int32} : am_tbl Ls xs 71 4 = some (o_get 9 55) := (m_71 4).trans rfl
theorem t_71_7 {Ls : Nat} {xs : Nat → Int32} : am_tbl Ls xs 71 7 = some (o_icmp (fun x y => decide (y ≤ x)) 43) := (m_71 7).trans rfl
theorem t_71_10 {Ls : Nat} {xs : Nat → Int32} : am_tbl Ls xs 71 10 = some (o_aload 0 1) := (m_71 10).trans rfl
theorem t_71_11 {Ls : Nat} {xs : Nat → Int32} : am_tbl Ls xs 71 11 = some (o_aload 0 1) := (m_71 11).trans rfl
theorem t_71_12 {Ls : Nat} {xs : Nat → Int32} : am_tbl Ls xs 71 12 = some (o_get 9 57) := (m_71 12).trans rfl
theorem t_71_15 {Ls : Nat} {xs : Nat → Int32} : am_tbl Ls xs 71 15 = some (o_iload 1 1) := (m_71 15).trans rfl
theorem t_71_16 {Ls : Nat} {xs : Nat → Int32} : am_tbl Ls xs 71 16 = some (o_iald 1) := (m_71 16).trans rfl
theorem t_71_17 {Ls : Nat} {xs : Nat → Int32} : am_tbl Ls xs 71 17 = some (o_aload 0 1) := (m_71 17).trans rfl
theorem t_71_18 {Ls : Nat} {xs : Nat → Int32} : am_tbl Ls xs 71 18 = some (o_get 9 56) := (m_71 18).trans rfl
theorem t_71_21 {Ls : Nat} {xs : Nat → Int32} : am_tbl Ls xs 71 21 = some (o_iload 1 1) := (m_71 21).trans rfl
theorem t_71_22 {Ls : Nat} {xs : Nat → Int32} : am_tbl Ls xs 71 22 = some (o_iald 1) := (m_71 22).trans rfl
theorem t_71_23 {Ls : Nat} {xs : Nat → Int32} : am_tbl Ls xs 71 23 = some (o_callv 32 2 9 8) := (m_71 23).trans rfl
theorem t_71_26 {Ls : Nat} {xs : Nat → Int32} : am_tbl Ls xs 71 26 = some (o_aload 0 1) := (m_71 26).trans rfl
theorem t_71_27 {Ls : Nat} {xs : Nat → Int32} : am_tbl Ls xs 71 27 = some (o_get 9 58) := (m_71 27).trans rfl
theorem t_71_30 {Ls : Nat} {xs : Nat → Int32} : am_tbl Ls xs 71 30 = some (o_iload 1 1) := (m_71 30).trans rfl
theorem t_71_31 {Ls : Nat} {xs : Nat → Int32} : am_tbl Ls xs 71 31 = some (o_iald 1) := (m_71 31).trans rfl
theorem t_71_32 {Ls : Nat} {xs : Nat → Int32} : am_tbl Ls xs 71 32 = some (o_icmp (fun x y => decide (x = y)) 37) := (m_71 32).trans rfl
theorem t_71_35 {Ls : Nat} {xs : Nat → Int32} : am_tbl Ls xs 71 35 = some (o_iload 1 1) := (m_71 35).trans rfl
theorem t_71_36 {Ls : Nat} {xs : Nat → Int32} : am_tbl Ls xs 71 36 = some (o_iret) := (m_71 36).trans rfl
theorem t_71_37 {Ls : Nat} {xs : Nat → Int32} : am_tbl Ls xs 71 37 = some (o_iinc 1 1) := (m_71 37).trans rfl
theorem t_71_40 {Ls : Nat} {xs : Nat → Int32} : am_tbl Ls xs 71 40 = some (o_goto 2) := (m_71 40).trans rfl
theorem t_71_43 {Ls : Nat} {xs : Nat → Int32} : am_tbl Ls xs 71 43 = some (o_push (.int (-1)) 1) := (m_71 43).trans rfl
theorem t_71_44 {Ls : Nat} {xs : Nat → Int32} : am_tbl Ls xs 71 44 = some (o_iret) := (m_71 44).trans rfl
theorem m_72 {Ls : Nat} {xs : Nat → Int32} (pc : Nat) : am_tbl Ls xs 72 pc = am_lk (op_X9_seed) pc := rfl
theorem t_72_0 {Ls : Nat} {xs : Nat → Int32} : am_tbl Ls xs 72 0 = some (o_iload 1 1) := (m_72 0).trans rfl
theorem t_72_1 {Ls : Nat} {xs : Nat → Int32} : am_tbl Ls xs 72 1 = some (o_if (fun x => decide (0 ≤ x)) 7) := (m_72 1).trans rfl
theorem t_72_4 {Ls : Nat} {xs : Nat → Int32} : am_tbl Ls xs 72 4 = some (o_push (.int (-1000000002)) 2) := (m_72 4).trans rfl
theorem t_72_6 {Ls : Nat} {xs : Nat → Int32} : am_tbl Ls xs 72 6 = some (o_iret) := (m_72 6).trans rfl
theorem t_72_7 {Ls : Nat} {xs : Nat → Int32} : am_tbl Ls xs 72 7 = some (o_aload 0 1) := (m_72 7).trans rfl
theorem t_72_8 {Ls : Nat} {xs : Nat → Int32} : am_tbl Ls xs 72 8 = some (o_get 9 16) := (m_72 8).trans rfl
theorem t_72_11 {Ls : Nat} {xs : Nat → Int32} : am_tbl Ls xs 72 11 = some (o_istore 2 1) := (m_72 11).trans rfl
theorem t_72_12 {Ls : Nat} {xs : Nat → Int32} : am_tbl Ls xs 72 12 = some (o_aload 0 1) := (m_72 12).trans rfl
theorem t_72_13 {Ls : Nat} {xs : Nat → Int32} : am_tbl Ls xs 72 13 = some (o_iload 1 1) := (m_72 13).trans rfl
theorem t_72_14 {Ls : Nat} {xs : Nat → Int32} : am_tbl Ls xs 72 14 = some (o_puti 9 16) := (m_72 14).trans rfl
theorem t_72_17 {Ls : Nat} {xs : Nat → Int32} : am_tbl Ls xs 72 17 = some (o_iload 2 1) := (m_72 17).trans rfl
theorem t_72_18 {Ls : Nat} {xs : Nat → Int32} : am_tbl Ls xs 72 18 = some (o_iret) := (m_72 18).trans rfl
theorem m_73 {Ls : Nat} {xs : Nat → Int32} (pc : Nat) : am_tbl Ls xs 73 pc = am_lk (op_X9_keep) pc := rfl
theorem t_73_0 {Ls : Nat} {xs : Nat → Int32} : am_tbl Ls xs 73 0 = some (o_iload 1 1) := (m_73 0).trans rfl
theorem t_73_1 {Ls : Nat} {xs : Nat → Int32} : am_tbl Ls xs 73 1 = some (o_i2l) := (m_73 1).trans rfl
theorem t_73_2 {Ls : Nat} {xs : Nat → Int32} : am_tbl Ls xs 73 2 = some (o_push (.long 0) 1) := (m_73 2).trans rfl
theorem t_73_3 {Ls : Nat} {xs : Nat → Int32} : am_tbl Ls xs 73 3 = some (o_push (.long 1) 1) := (m_73 3).trans rfl
theorem t_73_4 {Ls : Nat} {xs : Nat → Int32} : am_tbl Ls xs 73 4 = some (o_calls 1 3 6) := (m_73 4).trans rfl
theorem t_73_7 {Ls : Nat} {xs : Nat → Int32} : am_tbl Ls xs 73 7 = some (o_if (fun x => decide (x ≠ 0)) 14) := (m_73 7).trans rfl
theorem t_73_10 {Ls : Nat} {xs : Nat → Int32} : am_tbl Ls xs 73 10 = some (o_push (.int (-1000000001)) 3) := (m_73 10).trans rfl
theorem t_73_13 {Ls : Nat} {xs : Nat → Int32} : am_tbl Ls xs 73 13 = some (o_iret) := (m_73 13).trans rfl
theorem t_73_14 {Ls : Nat} {xs : Nat → Int32} : am_tbl Ls xs 73 14 = some (o_push (.int 70) 2) := (m_73 14).trans rfl
theorem t_73_16 {Ls : Nat} {xs : Nat → Int32} : am_tbl Ls xs 73 16 = some (o_iload 1 1) := (m_73 16).trans rfl
theorem t_73_17 {Ls : Nat} {xs : Nat → Int32} : am_tbl Ls xs 73 17 = some (o_ibin (fun x y => x * y)) := (m_73 17).trans rfl
theorem t_73_18 {Ls : Nat} {xs : Nat → Int32} : am_tbl Ls xs 73 18 = some (o_istore 2 1) := (m_73 18).trans rfl
theorem t_73_19 {Ls : Nat} {xs : Nat → Int32} : am_tbl Ls xs 73 19 = some (o_push (.int 0) 1) := (m_73 19).trans rfl
theorem t_73_20 {Ls : Nat} {xs : Nat → Int32} : am_tbl Ls xs 73 20 = some (o_istore 3 1) := (m_73 20).trans rfl
theorem t_73_21 {Ls : Nat} {xs : Nat → Int32} : am_tbl Ls xs 73 21 = some (o_nrm [0, 1, 2, 3] (o_iload 3 1)) := (m_73 21).trans rfl
theorem t_73_22 {Ls : Nat} {xs : Nat → Int32} : am_tbl Ls xs 73 22 = some (o_push (.int 6) 2) := (m_73 22).trans rfl
theorem t_73_24 {Ls : Nat} {xs : Nat → Int32} : am_tbl Ls xs 73 24 = some (o_icmp (fun x y => decide (y ≤ x)) 89) := (m_73 24).trans rfl
theorem t_73_27 {Ls : Nat} {xs : Nat → Int32} : am_tbl Ls xs 73 27 = some (o_aload 0 1) := (m_73 27).trans rfl
theorem t_73_28 {Ls : Nat} {xs : Nat → Int32} : am_tbl Ls xs 73 28 = some (o_get 9 59) := (m_73 28).trans rfl
theorem t_73_31 {Ls : Nat} {xs : Nat → Int32} : am_tbl Ls xs 73 31 = some (o_iload 2 1) := (m_73 31).trans rfl
theorem t_73_32 {Ls : Nat} {xs : Nat → Int32} : am_tbl Ls xs 73 32 = some (o_iload 3 1) := (m_73 32).trans rfl
theorem t_73_33 {Ls : Nat} {xs : Nat → Int32} : am_tbl Ls xs 73 33 = some (o_ibin (fun x y => x + y)) := (m_73 33).trans rfl
theorem t_73_34 {Ls : Nat} {xs : Nat → Int32} : am_tbl Ls xs 73 34 = some (o_aload 0 1) := (m_73 34).trans rfl
theorem t_73_35 {Ls : Nat} {xs : Nat → Int32} : am_tbl Ls xs 73 35 = some (o_get 9 9) := (m_73 35).trans rfl
theorem t_73_38 {Ls : Nat} {xs : Nat → Int32} : am_tbl Ls xs 73 38 = some (o_iload 3 1) := (m_73 38).trans rfl
theorem t_73_39 {Ls : Nat} {xs : Nat → Int32} : am_tbl Ls xs 73 39 = some (o_iald 1) := (m_73 39).trans rfl
theorem t_73_40 {Ls : Nat} {xs : Nat → Int32} : am_tbl Ls xs 73 40 = some (o_iast 1 (fun x => x)) := (m_73 40).trans rfl
theorem t_73_41 {Ls : Nat} {xs : Nat → Int32} : am_tbl Ls xs 73 41 = some (o_aload 0 1) := (m_73 41).trans rfl
theorem t_73_42 {Ls : Nat} {xs : Nat → Int32} : am_tbl Ls xs 73 42 = some (o_get 9 59) := (m_73 42).trans rfl
theorem t_73_45 {Ls : Nat} {xs : Nat → Int32} : am_tbl Ls xs 73 45 = some (o_iload 2 1) := (m_73 45).trans rfl
theorem t_73_46 {Ls : Nat} {xs : Nat → Int32} : am_tbl Ls xs 73 46 = some (o_push (.int 6) 2) := (m_73 46).trans rfl
theorem t_73_48 {Ls : Nat} {xs : Nat → Int32} : am_tbl Ls xs 73 48 = some (o_ibin (fun x y => x + y)) := (m_73 48).trans rfl
theorem t_73_49 {Ls : Nat} {xs : Nat → Int32} : am_tbl Ls xs 73 49 = some (o_iload 3 1) := (m_73 49).trans rfl
theorem t_73_50 {Ls : Nat} {xs : Nat → Int32} : am_tbl Ls xs 73 50 = some (o_ibin (fun x y => x + y)) := (m_73 50).trans rfl
theorem t_73_51 {Ls : Nat} {xs : Nat → Int32} : am_tbl Ls xs 73 51 = some (o_aload 0 1) := (m_73 51).trans rfl
theorem t_73_52 {Ls : Nat} {xs : Nat → Int32} : am_tbl Ls xs 73 52 = some (o_get 9 11) := (m_73 52).trans rfl
theorem t_73_55 {Ls : Nat} {xs : Nat → Int32} : am_tbl Ls xs 73 55 = some (o_iload 3 1) := (m_73 55).trans rfl
theorem t_73_56 {Ls : Nat} {xs : Nat → Int32} : am_tbl Ls xs 73 56 = some (o_iald 3) := (m_73 56).trans rfl
theorem t_73_57 {Ls : Nat} {xs : Nat → Int32} : am_tbl Ls xs 73 57 = some (o_if (fun x => decide (x = 0)) 64) := (m_73 57).trans rfl
theorem t_73_60 {Ls : Nat} {xs : Nat → Int32} : am_tbl Ls xs 73 60 = some (o_push (.int 1) 1) := (m_73 60).trans rfl
theorem t_73_61 {Ls : Nat} {xs : Nat → Int32} : am_tbl Ls xs 73 61 = some (o_goto 65) := (m_73 61).trans rfl
theorem t_73_64 {Ls : Nat} {xs : Nat → Int32} : am_tbl Ls xs 73 64 = some (o_push (.int 0) 1) := (m_73 64).trans rfl
theorem t_73_65 {Ls : Nat} {xs : Nat → Int32} : am_tbl Ls xs 73 65 = some (o_nrm [0, 1, 2, 3] (o_iast 1 (fun x => x))) := (m_73 65).trans rfl
theorem t_73_66 {Ls : Nat} {xs : Nat → Int32} : am_tbl Ls xs 73 66 = some (o_aload 0 1) := (m_73 66).trans rfl
theorem t_73_67 {Ls : Nat} {xs : Nat → Int32} : am_tbl Ls xs 73 67 = some (o_get 9 59) := (m_73 67).trans rfl
theorem t_73_70 {Ls : Nat} {xs : Nat → Int32} : am_tbl Ls xs 73 70 = some (o_iload 2 1) := (m_73 70).trans rfl
theorem t_73_71 {Ls : Nat} {xs : Nat → Int32} : am_tbl Ls xs 73 71 = some (o_push (.int 12) 2) := (m_73 71).trans rfl
theorem t_73_73 {Ls : Nat} {xs : Nat → Int32} : am_tbl Ls xs 73 73 = some (o_ibin (fun x y => x + y)) := (m_73 73).trans rfl
theorem t_73_74 {Ls : Nat} {xs : Nat → Int32} : am_tbl Ls xs 73 74 = some (o_iload 3 1) := (m_73 74).trans rfl
theorem t_73_75 {Ls : Nat} {xs : Nat → Int32} : am_tbl Ls xs 73 75 = some (o_ibin (fun x y => x + y)) := (m_73 75).trans rfl
theorem t_73_76 {Ls : Nat} {xs : Nat → Int32} : am_tbl Ls xs 73 76 = some (o_aload 0 1) := (m_73 76).trans rfl
theorem t_73_77 {Ls : Nat} {xs : Nat → Int32} : am_tbl Ls xs 73 77 = some (o_get 9 12) := (m_73 77).trans rfl
theorem t_73_80 {Ls : Nat} {xs : Nat → Int32} : am_tbl Ls xs 73 80 = some (o_iload 3 1) := (m_73 80).trans rfl
theorem t_73_81 {Ls : Nat} {xs : Nat → Int32} : am_tbl Ls xs 73 81 = some (o_iald 1) := (m_73 81).trans rfl
theorem t_73_82 {Ls : Nat} {xs : Nat → Int32} : am_tbl Ls xs 73 82 = some (o_iast 1 (fun x => x)) := (m_73 82).trans rfl
theorem t_73_83 {Ls : Nat} {xs : Nat → Int32} : am_tbl Ls xs 73 83 = some (o_iinc 3 1) := (m_73 83).trans rfl
theorem t_73_86 {Ls : Nat} {xs : Nat → Int32} : am_tbl Ls xs 73 86 = some (o_goto 21) := (m_73 86).trans rfl
theorem t_73_89 {Ls : Nat} {xs : Nat → Int32} : am_tbl Ls xs 73 89 = some (o_push (.int 0) 1) := (m_73 89).trans rfl
theorem t_73_90 {Ls : Nat} {xs : Nat → Int32} : am_tbl Ls xs 73 90 = some (o_istore 3 1) := (m_73 90).trans rfl
theorem t_73_91 {Ls : Nat} {xs : Nat → Int32} : am_tbl Ls xs 73 91 = some (o_nrm [0, 1, 2, 3] (o_iload 3 1)) := (m_73 91).trans rfl
theorem t_73_92 {Ls : Nat} {xs : Nat → Int32} : am_tbl Ls xs 73 92 = some (o_push (.int 48) 2) := (m_73 92).trans rfl
set_option maxRecDepth 20000 in
theorem t_73_94 {Ls : Nat} {xs : Nat → Int32} : am_tbl Ls xs 73 94 = some (o_icmp (fun x y => decide (y ≤ x)) 120) := (m_73 94).trans rfl
set_option maxRecDepth 20000 in
theorem t_73_97 {Ls : Nat} {xs : Nat → Int32} : am_tbl Ls xs 73 97 = some (o_aload 0 1) := (m_73 97).trans rfl
set_option maxRecDepth 20000 in
theorem t_73_98 {Ls : Nat} {xs : Nat → Int32} : am_tbl Ls xs 73 98 = some (o_get 9 59) := (m_73 98).trans rfl
set_option maxRecDepth 20000 in
theorem t_73_101 {Ls : Nat} {xs : Nat → Int32} : am_tbl Ls xs 73 101 = some (o_iload 2 1) := (m_73 101).trans rfl
set_option maxRecDepth 20000 in
theorem t_73_102 {Ls : Nat} {xs : Nat → Int32} : am_tbl Ls xs 73 102 = some (o_push (.int 18) 2) := (m_73 102).trans rfl
set_option maxRecDepth 20000 in
theorem t_73_104 {Ls : Nat} {xs : Nat → Int32} : am_tbl Ls xs 73 104 = some (o_ibin (fun x y => x + y)) := (m_73 104).trans rfl
set_option maxRecDepth 20000 in
theorem t_73_105 {Ls : Nat} {xs : Nat → Int32} : am_tbl Ls xs 73 105 = some (o_iload 3 1) := (m_73 105).trans rfl
set_option maxRecDepth 20000 in
theorem t_73_106 {Ls : Nat} {xs : Nat → Int32} : am_tbl Ls xs 73 106 = some (o_ibin (fun x y => x + y)) := (m_73 106).trans rfl
set_option maxRecDepth 20000 in
theorem t_73_107 {Ls : Nat} {xs : Nat → Int32} : am_tbl Ls xs 73 107 = some (o_aload 0 1) := (m_73 107).trans rfl
set_option maxRecDepth 20000 in
theorem t_73_108 {Ls : Nat} {xs : Nat → Int32} : am_tbl Ls xs 73 108 = some (o_get 9 2) := (m_73 108).trans rfl
set_option maxRecDepth 20000 in
theorem t_73_111 {Ls : Nat} {xs : Nat → Int32} : am_tbl Ls xs 73 111 = some (o_iload 3 1) := (m_73 111).trans rfl
set_option maxRecDepth 20000 in
theorem t_73_112 {Ls : Nat} {xs : Nat → Int32} : am_tbl Ls xs 73 112 = some (o_iald 1) := (m_73 112).trans rfl
set_option maxRecDepth 20000 in
theorem t_73_113 {Ls : Nat} {xs : Nat → Int32} : am_tbl Ls xs 73 113 = some (o_iast 1 (fun x => x)) := (m_73 113).trans rfl
set_option maxRecDepth 20000 in
theorem t_73_114 {Ls : Nat} {xs : Nat → Int32} : am_tbl Ls xs 73 114 = some (o_iinc 3 1) := (m_73 114).trans rfl
set_option maxRecDepth 20000 in
theorem t_73_117 {Ls : Nat} {xs : Nat → Int32} : am_tbl Ls xs 73 117 = some (o_goto 91) := (m_73 117).trans rfl
set_option maxRecDepth 20000 in
theorem t_73_120 {Ls : Nat} {xs : Nat → Int32} : am_tbl Ls xs 73 120 = some (o_aload 0 1) := (m_73 120).trans rfl
set_option maxRecDepth 20000 in
theorem t_73_121 {Ls : Nat} {xs : Nat → Int32} : am_tbl Ls xs 73 121 = some (o_get 9 59) := (m_73 121).trans rfl
set_option maxRecDepth 20000 in
theorem t_73_124 {Ls : Nat} {xs : Nat → Int32} : am_tbl Ls xs 73 124 = some (o_iload 2 1) := (m_73 124).trans rfl
set_option maxRecDepth 20000 in
theorem t_73_125 {Ls : Nat} {xs : Nat → Int32} : am_tbl Ls xs 73 125 = some (o_push (.int 66) 2) := (m_73 125).trans rfl
set_option maxRecDepth 20000 in
theorem t_73_127 {Ls : Nat} {xs : Nat → Int32} : am_tbl Ls xs 73 127 = some (o_ibin (fun x y => x + y)) := (m_73 127).trans rfl
set_option maxRecDepth 20000 in
theorem t_73_128 {Ls : Nat} {xs : Nat → Int32} : am_tbl Ls xs 73 128 = some (o_aload 0 1) := (m_73 128).trans rfl
set_option maxRecDepth 20000 in
theorem t_73_129 {Ls : Nat} {xs : Nat → Int32} : am_tbl Ls xs 73 129 = some (o_get 9 14) := (m_73 129).trans rfl
set_option maxRecDepth 20000 in
theorem t_73_132 {Ls : Nat} {xs : Nat → Int32} : am_tbl Ls xs 73 132 = some (o_iast 1 (fun x => x)) := (m_73 132).trans rfl
set_option maxRecDepth 20000 in
theorem t_73_133 {Ls : Nat} {xs : Nat → Int32} : am_tbl Ls xs 73 133 = some (o_aload 0 1) := (m_73 133).trans rfl
set_option maxRecDepth 20000 in
theorem t_73_134 {Ls : Nat} {xs : Nat → Int32} : am_tbl Ls xs 73 134 = some (o_get 9 59) := (m_73 134).trans rfl
set_option maxRecDepth 20000 in
theorem t_73_137 {Ls : Nat} {xs : Nat → Int32} : am_tbl Ls xs 73 137 = some (o_iload 2 1) := (m_73 137).trans rfl
set_option maxRecDepth 20000 in
theorem t_73_138 {Ls : Nat} {xs : Nat → Int32} : am_tbl Ls xs 73 138 = some (o_push (.int 67) 2) := (m_73 138).trans rfl
set_option maxRecDepth 20000 in
theorem t_73_140 {Ls : Nat} {xs : Nat → Int32} : am_tbl Ls xs 73 140 = some (o_ibin (fun x y => x + y)) := (m_73 140).trans rfl
set_option maxRecDepth 20000 in
theorem t_73_141 {Ls : Nat} {xs : Nat → Int32} : am_tbl Ls xs 73 141 = some (o_aload 0 1) := (m_73 141).trans rfl
set_option maxRecDepth 20000 in
theorem t_73_142 {Ls : Nat} {xs : Nat → Int32} : am_tbl Ls xs 73 142 = some (o_get 9 15) := (m_73 142).trans rfl
set_option maxRecDepth 20000 in
theorem t_73_145 {Ls : Nat} {xs : Nat → Int32} : am_tbl Ls xs 73 145 = some (o_iast 1 (fun x => x)) := (m_73 145).trans rfl
set_option maxRecDepth 20000 in
theorem t_73_146 {Ls : Nat} {xs : Nat → Int32} : am_tbl Ls xs 73 146 = some (o_aload 0 1) := (m_73 146).trans rfl
set_option maxRecDepth 20000 in
theorem t_73_147 {Ls : Nat} {xs : Nat → Int32} : am_tbl Ls xs 73 147 = some (o_get 9 59) := (m_73 147).trans rfl
set_option maxRecDepth 20000 in
theorem t_73_150 {Ls : Nat} {xs : Nat → Int32} : am_tbl Ls xs 73 150 = some (o_iload 2 1) := (m_73 150).trans rfl
set_option maxRecDepth 20000 in
theorem t_73_151 {Ls : Nat} {xs : Nat → Int32} : am_tbl Ls xs 73 151 = some (o_push (.int 68) 2) := (m_73 151).trans rfl
set_option maxRecDepth 20000 in
theorem t_73_153 {Ls : Nat} {xs : Nat → Int32} : am_tbl Ls xs 73 153 = some (o_ibin (fun x y => x + y)) := (m_73 153).trans rfl
set_option maxRecDepth 20000 in
theorem t_73_154 {Ls : Nat} {xs : Nat → Int32} : am_tbl Ls xs 73 154 = some (o_aload 0 1) := (m_73 154).trans rfl
set_option maxRecDepth 20000 in
theorem t_73_155 {Ls : Nat} {xs : Nat → Int32} : am_tbl Ls xs 73 155 = some (o_get 9 16) := (m_73 155).trans rfl
set_option maxRecDepth 20000 in
theorem t_73_158 {Ls : Nat} {xs : Nat → Int32} : am_tbl Ls xs 73 158 = some (o_iast 1 (fun x => x)) := (m_73 158).trans rfl
set_option maxRecDepth 20000 in
theorem t_73_159 {Ls : Nat} {xs : Nat → Int32} : am_tbl Ls xs 73 159 = some (o_aload 0 1) := (m_73 159).trans rfl
set_option maxRecDepth 20000 in
theorem t_73_160 {Ls : Nat} {xs : Nat → Int32} : am_tbl Ls xs 73 160 = some (o_get 9 60) := (m_73 160).trans rfl
set_option maxRecDepth 20000 in
theorem t_73_163 {Ls : Nat} {xs : Nat → Int32} : am_tbl Ls xs 73 163 = some (o_iload 1 1) := (m_73 163).trans rfl
set_option maxRecDepth 20000 in
theorem t_73_164 {Ls : Nat} {xs : Nat → Int32} : am_tbl Ls xs 73 164 = some (o_push (.int 1) 1) := (m_73 164).trans rfl
set_option maxRecDepth 20000 in
theorem t_73_165 {Ls : Nat} {xs : Nat → Int32} : am_tbl Ls xs 73 165 = some (o_iast 3 (fun x => vp_nar .boolean x)) := (m_73 165).trans rfl
set_option maxRecDepth 20000 in
theorem t_73_166 {Ls : Nat} {xs : Nat → Int32} : am_tbl Ls xs 73 166 = some (o_push (.int 1) 1) := (m_73 166).trans rfl
set_option maxRecDepth 20000 in
theorem t_73_167 {Ls : Nat} {xs : Nat → Int32} : am_tbl Ls xs 73 167 = some (o_iret) := (m_73 167).trans rfl
theorem m_74 {Ls : Nat} {xs : Nat → Int32} (pc : Nat) : am_tbl Ls xs 74 pc = am_lk (op_X9_goBack) pc := rfl
theorem t_74_0 {Ls : Nat} {xs : Nat → Int32} : am_tbl Ls xs 74 0 = some (o_iload 1 1) := (m_74 0).trans rfl
theorem t_74_1 {Ls : Nat} {xs : Nat → Int32} : am_tbl Ls xs 74 1 = some (o_i2l) := (m_74 1).trans rfl
theorem t_74_2 {Ls : Nat} {xs : Nat → Int32} : am_tbl Ls xs 74 2 = some (o_push (.long 0) 1) := (m_74 2).trans rfl
theorem t_74_3 {Ls : Nat} {xs : Nat → Int32} : am_tbl Ls xs 74 3 = some (o_push (.long 1) 1) := (m_74 3).trans rfl
theorem t_74_4 {Ls : Nat} {xs : Nat → Int32} : am_tbl Ls xs 74 4 = some (o_calls 1 3 6) := (m_74 4).trans rfl
theorem t_74_7 {Ls : Nat} {xs : Nat → Int32} : am_tbl Ls xs 74 7 = some (o_if (fun x => decide (x ≠ 0)) 14) := (m_74 7).trans rfl
theorem t_74_10 {Ls : Nat} {xs : Nat → Int32} : am_tbl Ls xs 74 10 = some (o_push (.int (-1000000001)) 3) := (m_74 10).trans rfl
theorem t_74_13 {Ls : Nat} {xs : Nat → Int32} : am_tbl Ls xs 74 13 = some (o_iret) := (m_74 13).trans rfl
theorem t_74_14 {Ls : Nat} {xs : Nat → Int32} : am_tbl Ls xs 74 14 = some (o_aload 0 1) := (m_74 14).trans rfl
theorem t_74_15 {Ls : Nat} {xs : Nat → Int32} : am_tbl Ls xs 74 15 = some (o_get 9 60) := (m_74 15).trans rfl
theorem t_74_18 {Ls : Nat} {xs : Nat → Int32} : am_tbl Ls xs 74 18 = some (o_iload 1 1) := (m_74 18).trans rfl
theorem t_74_19 {Ls : Nat} {xs : Nat → Int32} : am_tbl Ls xs 74 19 = some (o_iald 3) := (m_74 19).trans rfl
theorem t_74_20 {Ls : Nat} {xs : Nat → Int32} : am_tbl Ls xs 74 20 = some (o_if (fun x => decide (x ≠ 0)) 27) := (m_74 20).trans rfl
theorem t_74_23 {Ls : Nat} {xs : Nat → Int32} : am_tbl Ls xs 74 23 = some (o_push (.int (-1000000003)) 3) := (m_74 23).trans rfl
theorem t_74_26 {Ls : Nat} {xs : Nat → Int32} : am_tbl Ls xs 74 26 = some (o_iret) := (m_74 26).trans rfl
theorem t_74_27 {Ls : Nat} {xs : Nat → Int32} : am_tbl Ls xs 74 27 = some (o_push (.int 70) 2) := (m_74 27).trans rfl
theorem t_74_29 {Ls : Nat} {xs : Nat → Int32} : am_tbl Ls xs 74 29 = some (o_iload 1 1) := (m_74 29).trans rfl
theorem t_74_30 {Ls : Nat} {xs : Nat → Int32} : am_tbl Ls xs 74 30 = some (o_ibin (fun x y => x * y)) := (m_74 30).trans rfl
theorem t_74_31 {Ls : Nat} {xs : Nat → Int32} : am_tbl Ls xs 74 31 = some (o_istore 2 1) := (m_74 31).trans rfl
theorem t_74_32 {Ls : Nat} {xs : Nat → Int32} : am_tbl Ls xs 74 32 = some (o_push (.int 0) 1) := (m_74 32).trans rfl
theorem t_74_33 {Ls : Nat} {xs : Nat → Int32} : am_tbl Ls xs 74 33 = some (o_istore 3 1) := (m_74 33).trans rfl
theorem t_74_34 {Ls : Nat} {xs : Nat → Int32} : am_tbl Ls xs 74 34 = some (o_nrm [0, 2, 3] (o_iload 3 1)) := (m_74 34).trans rfl
theorem t_74_35 {Ls : Nat} {xs : Nat → Int32} : am_tbl Ls xs 74 35 = some (o_push (.int 6) 2) := (m_74 35).trans rfl
theorem t_74_37 {Ls : Nat} {xs : Nat → Int32} : am_tbl Ls xs 74 37 = some (o_icmp (fun x y => decide (y ≤ x)) 103) := (m_74 37).trans rfl
theorem t_74_40 {Ls : Nat} {xs : Nat → Int32} : am_tbl Ls xs 74 40 = some (o_aload 0 1) := (m_74 40).trans rfl
theorem t_74_41 {Ls : Nat} {xs : Nat → Int32} : am_tbl Ls xs 74 41 = some (o_get 9 9) := (m_74 41).trans rfl
theorem t_74_44 {Ls : Nat} {xs : Nat → Int32} : am_tbl Ls xs 74 44 = some (o_iload 3 1) := (m_74 44).trans rfl
theorem t_74_45 {Ls : Nat} {xs : Nat → Int32} : am_tbl Ls xs 74 45 = some (o_aload 0 1) := (m_74 45).trans rfl
theorem t_74_46 {Ls : Nat} {xs : Nat → Int32} : am_tbl Ls xs 74 46 = some (o_get 9 59) := (m_74 46).trans rfl
theorem t_74_49 {Ls : Nat} {xs : Nat → Int32} : am_tbl Ls xs 74 49 = some (o_iload 2 1) := (m_74 49).trans rfl
theorem t_74_50 {Ls : Nat} {xs : Nat → Int32} : am_tbl Ls xs 74 50 = some (o_iload 3 1) := (m_74 50).trans rfl
theorem t_74_51 {Ls : Nat} {xs : Nat → Int32} : am_tbl Ls xs 74 51 = some (o_ibin (fun x y => x + y)) := (m_74 51).trans rfl
theorem t_74_52 {Ls : Nat} {xs : Nat → Int32} : am_tbl Ls xs 74 52 = some (o_iald 1) := (m_74 52).trans rfl
theorem t_74_53 {Ls : Nat} {xs : Nat → Int32} : am_tbl Ls xs 74 53 = some (o_iast 1 (fun x => x)) := (m_74 53).trans rfl
theorem t_74_54 {Ls : Nat} {xs : Nat → Int32} : am_tbl Ls xs 74 54 = some (o_aload 0 1) := (m_74 54).trans rfl
theorem t_74_55 {Ls : Nat} {xs : Nat → Int32} : am_tbl Ls xs 74 55 = some (o_get 9 11) := (m_74 55).trans rfl
theorem t_74_58 {Ls : Nat} {xs : Nat → Int32} : am_tbl Ls xs 74 58 = some (o_iload 3 1) := (m_74 58).trans rfl
theorem t_74_59 {Ls : Nat} {xs : Nat → Int32} : am_tbl Ls xs 74 59 = some (o_aload 0 1) := (m_74 59).trans rfl
theorem t_74_60 {Ls : Nat} {xs : Nat → Int32} : am_tbl Ls xs 74 60 = some (o_get 9 59) := (m_74 60).trans rfl
theorem t_74_63 {Ls : Nat} {xs : Nat → Int32} : am_tbl Ls xs 74 63 = some (o_iload 2 1) := (m_74 63).trans rfl
theorem t_74_64 {Ls : Nat} {xs : Nat → Int32} : am_tbl Ls xs 74 64 = some (o_push (.int 6) 2) := (m_74 64).trans rfl
theorem t_74_66 {Ls : Nat} {xs : Nat → Int32} : am_tbl Ls xs 74 66 = some (o_ibin (fun x y => x + y)) := (m_74 66).trans rfl
theorem t_74_67 {Ls : Nat} {xs : Nat → Int32} : am_tbl Ls xs 74 67 = some (o_iload 3 1) := (m_74 67).trans rfl
theorem t_74_68 {Ls : Nat} {xs : Nat → Int32} : am_tbl Ls xs 74 68 = some (o_ibin (fun x y => x + y)) := (m_74 68).trans rfl
theorem t_74_69 {Ls : Nat} {xs : Nat → Int32} : am_tbl Ls xs 74 69 = some (o_iald 1) := (m_74 69).trans rfl
theorem t_74_70 {Ls : Nat} {xs : Nat → Int32} : am_tbl Ls xs 74 70 = some (o_push (.int 1) 1) := (m_74 70).trans rfl
theorem t_74_71 {Ls : Nat} {xs : Nat → Int32} : am_tbl Ls xs 74 71 = some (o_icmp (fun x y => decide (x ≠ y)) 78) := (m_74 71).trans rfl
theorem t_74_74 {Ls : Nat} {xs : Nat → Int32} : am_tbl Ls xs 74 74 = some (o_push (.int 1) 1) := (m_74 74).trans rfl
theorem t_74_75 {Ls : Nat} {xs : Nat → Int32} : am_tbl Ls xs 74 75 = some (o_goto 79) := (m_74 75).trans rfl
theorem t_74_78 {Ls : Nat} {xs : Nat → Int32} : am_tbl Ls xs 74 78 = some (o_push (.int 0) 1) := (m_74 78).trans rfl
theorem t_74_79 {Ls : Nat} {xs : Nat → Int32} : am_tbl Ls xs 74 79 = some (o_nrm [0, 2, 3] (o_iast 3 (fun x => vp_nar .boolean x))) := (m_74 79).trans rfl
theorem t_74_80 {Ls : Nat} {xs : Nat → Int32} : am_tbl Ls xs 74 80 = some (o_aload 0 1) := (m_74 80).trans rfl
theorem t_74_81 {Ls : Nat} {xs : Nat → Int32} : am_tbl Ls xs 74 81 = some (o_get 9 12) := (m_74 81).trans rfl
theorem t_74_84 {Ls : Nat} {xs : Nat → Int32} : am_tbl Ls xs 74 84 = some (o_iload 3 1) := (m_74 84).trans rfl
theorem t_74_85 {Ls : Nat} {xs : Nat → Int32} : am_tbl Ls xs 74 85 = some (o_aload 0 1) := (m_74 85).trans rfl
theorem t_74_86 {Ls : Nat} {xs : Nat → Int32} : am_tbl Ls xs 74 86 = some (o_get 9 59) := (m_74 86).trans rfl
theorem t_74_89 {Ls : Nat} {xs : Nat → Int32} : am_tbl Ls xs 74 89 = some (o_iload 2 1) := (m_74 89).trans rfl
theorem t_74_90 {Ls : Nat} {xs : Nat → Int32} : am_tbl Ls xs 74 90 = some (o_push (.int 12) 2) := (m_74 90).trans rfl
theorem t_74_92 {Ls : Nat} {xs : Nat → Int32} : am_tbl Ls xs 74 92 = some (o_ibin (fun x y => x + y)) := (m_74 92).trans rfl
theorem t_74_93 {Ls : Nat} {xs : Nat → Int32} : am_tbl Ls xs 74 93 = some (o_iload 3 1) := (m_74 93).trans rfl
theorem t_74_94 {Ls : Nat} {xs : Nat → Int32} : am_tbl Ls xs 74 94 = some (o_ibin (fun x y => x + y)) := (m_74 94).trans rfl
set_option maxRecDepth 20000 in
theorem t_74_95 {Ls : Nat} {xs : Nat → Int32} : am_tbl Ls xs 74 95 = some (o_iald 1) := (m_74 95).trans rfl
set_option maxRecDepth 20000 in
theorem t_74_96 {Ls : Nat} {xs : Nat → Int32} : am_tbl Ls xs 74 96 = some (o_iast 1 (fun x => x)) := (m_74 96).trans rfl
set_option maxRecDepth 20000 in
theorem t_74_97 {Ls : Nat} {xs : Nat → Int32} : am_tbl Ls xs 74 97 = some (o_iinc 3 1) := (m_74 97).trans rfl
set_option maxRecDepth 20000 in
theorem t_74_100 {Ls : Nat} {xs : Nat → Int32} : am_tbl Ls xs 74 100 = some (o_goto 34) := (m_74 100).trans rfl
set_option maxRecDepth 20000 in
theorem t_74_103 {Ls : Nat} {xs : Nat → Int32} : am_tbl Ls xs 74 103 = some (o_push (.int 0) 1) := (m_74 103).trans rfl
set_option maxRecDepth 20000 in
theorem t_74_104 {Ls : Nat} {xs : Nat → Int32} : am_tbl Ls xs 74 104 = some (o_istore 3 1) := (m_74 104).trans rfl
set_option maxRecDepth 20000 in
theorem t_74_105 {Ls : Nat} {xs : Nat → Int32} : am_tbl Ls xs 74 105 = some (o_nrm [0, 2, 3] (o_iload 3 1)) := (m_74 105).trans rfl
set_option maxRecDepth 20000 in
theorem t_74_106 {Ls : Nat} {xs : Nat → Int32} : am_tbl Ls xs 74 106 = some (o_push (.int 48) 2) := (m_74 106).trans rfl
set_option maxRecDepth 20000 in
theorem t_74_108 {Ls : Nat} {xs : Nat → Int32} : am_tbl Ls xs 74 108 = some (o_icmp (fun x y => decide (y ≤ x)) 134) := (m_74 108).trans rfl
set_option maxRecDepth 20000 in
theorem t_74_111 {Ls : Nat} {xs : Nat → Int32} : am_tbl Ls xs 74 111 = some (o_aload 0 1) := (m_74 111).trans rfl
set_option maxRecDepth 20000 in
theorem t_74_112 {Ls : Nat} {xs : Nat → Int32} : am_tbl Ls xs 74 112 = some (o_get 9 2) := (m_74 112).trans rfl
set_option maxRecDepth 20000 in
theorem t_74_115 {Ls : Nat} {xs : Nat → Int32} : am_tbl Ls xs 74 115 = some (o_iload 3 1) := (m_74 115).trans rfl
set_option maxRecDepth 20000 in
theorem t_74_116 {Ls : Nat} {xs : Nat → Int32} : am_tbl Ls xs 74 116 = some (o_aload 0 1) := (m_74 116).trans rfl
set_option maxRecDepth 20000 in
theorem t_74_117 {Ls : Nat} {xs : Nat → Int32} : am_tbl Ls xs 74 117 = some (o_get 9 59) := (m_74 117).trans rfl
set_option maxRecDepth 20000 in
theorem t_74_120 {Ls : Nat} {xs : Nat → Int32} : am_tbl Ls xs 74 120 = some (o_iload 2 1) := (m_74 120).trans rfl
set_option maxRecDepth 20000 in
theorem t_74_121 {Ls : Nat} {xs : Nat → Int32} : am_tbl Ls xs 74 121 = some (o_push (.int 18) 2) := (m_74 121).trans rfl
set_option maxRecDepth 20000 in
theorem t_74_123 {Ls : Nat} {xs : Nat → Int32} : am_tbl Ls xs 74 123 = some (o_ibin (fun x y => x + y)) := (m_74 123).trans rfl
set_option maxRecDepth 20000 in
theorem t_74_124 {Ls : Nat} {xs : Nat → Int32} : am_tbl Ls xs 74 124 = some (o_iload 3 1) := (m_74 124).trans rfl
set_option maxRecDepth 20000 in
theorem t_74_125 {Ls : Nat} {xs : Nat → Int32} : am_tbl Ls xs 74 125 = some (o_ibin (fun x y => x + y)) := (m_74 125).trans rfl
set_option maxRecDepth 20000 in
theorem t_74_126 {Ls : Nat} {xs : Nat → Int32} : am_tbl Ls xs 74 126 = some (o_iald 1) := (m_74 126).trans rfl
set_option maxRecDepth 20000 in
theorem t_74_127 {Ls : Nat} {xs : Nat → Int32} : am_tbl Ls xs 74 127 = some (o_iast 1 (fun x => x)) := (m_74 127).trans rfl
set_option maxRecDepth 20000 in
theorem t_74_128 {Ls : Nat} {xs : Nat → Int32} : am_tbl Ls xs 74 128 = some (o_iinc 3 1) := (m_74 128).trans rfl
set_option maxRecDepth 20000 in
theorem t_74_131 {Ls : Nat} {xs : Nat → Int32} : am_tbl Ls xs 74 131 = some (o_goto 105) := (m_74 131).trans rfl
set_option maxRecDepth 20000 in
theorem t_74_134 {Ls : Nat} {xs : Nat → Int32} : am_tbl Ls xs 74 134 = some (o_aload 0 1) := (m_74 134).trans rfl
set_option maxRecDepth 20000 in
theorem t_74_135 {Ls : Nat} {xs : Nat → Int32} : am_tbl Ls xs 74 135 = some (o_aload 0 1) := (m_74 135).trans rfl
set_option maxRecDepth 20000 in
theorem t_74_136 {Ls : Nat} {xs : Nat → Int32} : am_tbl Ls xs 74 136 = some (o_get 9 59) := (m_74 136).trans rfl
set_option maxRecDepth 20000 in
theorem t_74_139 {Ls : Nat} {xs : Nat → Int32} : am_tbl Ls xs 74 139 = some (o_iload 2 1) := (m_74 139).trans rfl
set_option maxRecDepth 20000 in
theorem t_74_140 {Ls : Nat} {xs : Nat → Int32} : am_tbl Ls xs 74 140 = some (o_push (.int 66) 2) := (m_74 140).trans rfl
set_option maxRecDepth 20000 in
theorem t_74_142 {Ls : Nat} {xs : Nat → Int32} : am_tbl Ls xs 74 142 = some (o_ibin (fun x y => x + y)) := (m_74 142).trans rfl
set_option maxRecDepth 20000 in
theorem t_74_143 {Ls : Nat} {xs : Nat → Int32} : am_tbl Ls xs 74 143 = some (o_iald 1) := (m_74 143).trans rfl
set_option maxRecDepth 20000 in
theorem t_74_144 {Ls : Nat} {xs : Nat → Int32} : am_tbl Ls xs 74 144 = some (o_puti 9 14) := (m_74 144).trans rfl
set_option maxRecDepth 20000 in
theorem t_74_147 {Ls : Nat} {xs : Nat → Int32} : am_tbl Ls xs 74 147 = some (o_aload 0 1) := (m_74 147).trans rfl
set_option maxRecDepth 20000 in
theorem t_74_148 {Ls : Nat} {xs : Nat → Int32} : am_tbl Ls xs 74 148 = some (o_aload 0 1) := (m_74 148).trans rfl
set_option maxRecDepth 20000 in
theorem t_74_149 {Ls : Nat} {xs : Nat → Int32} : am_tbl Ls xs 74 149 = some (o_get 9 59) := (m_74 149).trans rfl
set_option maxRecDepth 20000 in
theorem t_74_152 {Ls : Nat} {xs : Nat → Int32} : am_tbl Ls xs 74 152 = some (o_iload 2 1) := (m_74 152).trans rfl
set_option maxRecDepth 20000 in
theorem t_74_153 {Ls : Nat} {xs : Nat → Int32} : am_tbl Ls xs 74 153 = some (o_push (.int 67) 2) := (m_74 153).trans rfl
set_option maxRecDepth 20000 in
theorem t_74_155 {Ls : Nat} {xs : Nat → Int32} : am_tbl Ls xs 74 155 = some (o_ibin (fun x y => x + y)) := (m_74 155).trans rfl
set_option maxRecDepth 20000 in
theorem t_74_156 {Ls : Nat} {xs : Nat → Int32} : am_tbl Ls xs 74 156 = some (o_iald 1) := (m_74 156).trans rfl
set_option maxRecDepth 20000 in
theorem t_74_157 {Ls : Nat} {xs : Nat → Int32} : am_tbl Ls xs 74 157 = some (o_puti 9 15) := (m_74 157).trans rfl
set_option maxRecDepth 20000 in
theorem t_74_160 {Ls : Nat} {xs : Nat → Int32} : am_tbl Ls xs 74 160 = some (o_aload 0 1) := (m_74 160).trans rfl
set_option maxRecDepth 20000 in
theorem t_74_161 {Ls : Nat} {xs : Nat → Int32} : am_tbl Ls xs 74 161 = some (o_aload 0 1) := (m_74 161).trans rfl
set_option maxRecDepth 20000 in
theorem t_74_162 {Ls : Nat} {xs : Nat → Int32} : am_tbl Ls xs 74 162 = some (o_get 9 59) := (m_74 162).trans rfl
set_option maxRecDepth 20000 in
theorem t_74_165 {Ls : Nat} {xs : Nat → Int32} : am_tbl Ls xs 74 165 = some (o_iload 2 1) := (m_74 165).trans rfl
set_option maxRecDepth 20000 in
theorem t_74_166 {Ls : Nat} {xs : Nat → Int32} : am_tbl Ls xs 74 166 = some (o_push (.int 68) 2) := (m_74 166).trans rfl
set_option maxRecDepth 20000 in
theorem t_74_168 {Ls : Nat} {xs : Nat → Int32} : am_tbl Ls xs 74 168 = some (o_ibin (fun x y => x + y)) := (m_74 168).trans rfl
set_option maxRecDepth 20000 in
theorem t_74_169 {Ls : Nat} {xs : Nat → Int32} : am_tbl Ls xs 74 169 = some (o_iald 1) := (m_74 169).trans rfl
set_option maxRecDepth 20000 in
theorem t_74_170 {Ls : Nat} {xs : Nat → Int32} : am_tbl Ls xs 74 170 = some (o_puti 9 16) := (m_74 170).trans rfl
set_option maxRecDepth 20000 in
theorem t_74_173 {Ls : Nat} {xs : Nat → Int32} : am_tbl Ls xs 74 173 = some (o_push (.int 1) 1) := (m_74 173).trans rfl
set_option maxRecDepth 20000 in
theorem t_74_174 {Ls : Nat} {xs : Nat → Int32} : am_tbl Ls xs 74 174 = some (o_iret) := (m_74 174).trans rfl
