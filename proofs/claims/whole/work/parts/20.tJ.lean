/-! THE TABLES BY PLACE -/
theorem m_193 {Ls : Nat} {xs : Nat → Int32} (pc : Nat) : am_tbl Ls xs 193 pc = am_lk (op_J13_bitCount_95d88) pc := rfl
theorem t_193_0 {Ls : Nat} {xs : Nat → Int32} : am_tbl Ls xs 193 0 = some (o_lload 0 1) := (m_193 0).trans rfl
theorem t_193_1 {Ls : Nat} {xs : Nat → Int32} : am_tbl Ls xs 193 1 = some (o_lload 0 1) := (m_193 1).trans rfl
theorem t_193_2 {Ls : Nat} {xs : Nat → Int32} : am_tbl Ls xs 193 2 = some (o_push (.int 1) 1) := (m_193 2).trans rfl
theorem t_193_3 {Ls : Nat} {xs : Nat → Int32} : am_tbl Ls xs 193 3 = some (o_lsh (fun x y => (x.toUInt64 >>> (y.toInt64.toUInt64 &&& Int64.toUInt64 63)).toInt64)) := (m_193 3).trans rfl
theorem t_193_4 {Ls : Nat} {xs : Nat → Int32} : am_tbl Ls xs 193 4 = some (o_push (.long 6148914691236517205) 3) := (m_193 4).trans rfl
theorem t_193_7 {Ls : Nat} {xs : Nat → Int32} : am_tbl Ls xs 193 7 = some (o_lbin (fun x y => x &&& y)) := (m_193 7).trans rfl
theorem t_193_8 {Ls : Nat} {xs : Nat → Int32} : am_tbl Ls xs 193 8 = some (o_lbin (fun x y => x - y)) := (m_193 8).trans rfl
theorem t_193_9 {Ls : Nat} {xs : Nat → Int32} : am_tbl Ls xs 193 9 = some (o_lstore 0 1) := (m_193 9).trans rfl
theorem t_193_10 {Ls : Nat} {xs : Nat → Int32} : am_tbl Ls xs 193 10 = some (o_lload 0 1) := (m_193 10).trans rfl
theorem t_193_11 {Ls : Nat} {xs : Nat → Int32} : am_tbl Ls xs 193 11 = some (o_push (.long 3689348814741910323) 3) := (m_193 11).trans rfl
theorem t_193_14 {Ls : Nat} {xs : Nat → Int32} : am_tbl Ls xs 193 14 = some (o_lbin (fun x y => x &&& y)) := (m_193 14).trans rfl
theorem t_193_15 {Ls : Nat} {xs : Nat → Int32} : am_tbl Ls xs 193 15 = some (o_lload 0 1) := (m_193 15).trans rfl
theorem t_193_16 {Ls : Nat} {xs : Nat → Int32} : am_tbl Ls xs 193 16 = some (o_push (.int 2) 1) := (m_193 16).trans rfl
theorem t_193_17 {Ls : Nat} {xs : Nat → Int32} : am_tbl Ls xs 193 17 = some (o_lsh (fun x y => (x.toUInt64 >>> (y.toInt64.toUInt64 &&& Int64.toUInt64 63)).toInt64)) := (m_193 17).trans rfl
theorem t_193_18 {Ls : Nat} {xs : Nat → Int32} : am_tbl Ls xs 193 18 = some (o_push (.long 3689348814741910323) 3) := (m_193 18).trans rfl
theorem t_193_21 {Ls : Nat} {xs : Nat → Int32} : am_tbl Ls xs 193 21 = some (o_lbin (fun x y => x &&& y)) := (m_193 21).trans rfl
theorem t_193_22 {Ls : Nat} {xs : Nat → Int32} : am_tbl Ls xs 193 22 = some (o_lbin (fun x y => x + y)) := (m_193 22).trans rfl
theorem t_193_23 {Ls : Nat} {xs : Nat → Int32} : am_tbl Ls xs 193 23 = some (o_lstore 0 1) := (m_193 23).trans rfl
theorem t_193_24 {Ls : Nat} {xs : Nat → Int32} : am_tbl Ls xs 193 24 = some (o_lload 0 1) := (m_193 24).trans rfl
theorem t_193_25 {Ls : Nat} {xs : Nat → Int32} : am_tbl Ls xs 193 25 = some (o_lload 0 1) := (m_193 25).trans rfl
theorem t_193_26 {Ls : Nat} {xs : Nat → Int32} : am_tbl Ls xs 193 26 = some (o_push (.int 4) 1) := (m_193 26).trans rfl
theorem t_193_27 {Ls : Nat} {xs : Nat → Int32} : am_tbl Ls xs 193 27 = some (o_lsh (fun x y => (x.toUInt64 >>> (y.toInt64.toUInt64 &&& Int64.toUInt64 63)).toInt64)) := (m_193 27).trans rfl
theorem t_193_28 {Ls : Nat} {xs : Nat → Int32} : am_tbl Ls xs 193 28 = some (o_lbin (fun x y => x + y)) := (m_193 28).trans rfl
theorem t_193_29 {Ls : Nat} {xs : Nat → Int32} : am_tbl Ls xs 193 29 = some (o_push (.long 1085102592571150095) 3) := (m_193 29).trans rfl
theorem t_193_32 {Ls : Nat} {xs : Nat → Int32} : am_tbl Ls xs 193 32 = some (o_lbin (fun x y => x &&& y)) := (m_193 32).trans rfl
theorem t_193_33 {Ls : Nat} {xs : Nat → Int32} : am_tbl Ls xs 193 33 = some (o_lstore 0 1) := (m_193 33).trans rfl
theorem t_193_34 {Ls : Nat} {xs : Nat → Int32} : am_tbl Ls xs 193 34 = some (o_lload 0 1) := (m_193 34).trans rfl
theorem t_193_35 {Ls : Nat} {xs : Nat → Int32} : am_tbl Ls xs 193 35 = some (o_lload 0 1) := (m_193 35).trans rfl
theorem t_193_36 {Ls : Nat} {xs : Nat → Int32} : am_tbl Ls xs 193 36 = some (o_push (.int 8) 2) := (m_193 36).trans rfl
theorem t_193_38 {Ls : Nat} {xs : Nat → Int32} : am_tbl Ls xs 193 38 = some (o_lsh (fun x y => (x.toUInt64 >>> (y.toInt64.toUInt64 &&& Int64.toUInt64 63)).toInt64)) := (m_193 38).trans rfl
theorem t_193_39 {Ls : Nat} {xs : Nat → Int32} : am_tbl Ls xs 193 39 = some (o_lbin (fun x y => x + y)) := (m_193 39).trans rfl
theorem t_193_40 {Ls : Nat} {xs : Nat → Int32} : am_tbl Ls xs 193 40 = some (o_lstore 0 1) := (m_193 40).trans rfl
theorem t_193_41 {Ls : Nat} {xs : Nat → Int32} : am_tbl Ls xs 193 41 = some (o_lload 0 1) := (m_193 41).trans rfl
theorem t_193_42 {Ls : Nat} {xs : Nat → Int32} : am_tbl Ls xs 193 42 = some (o_lload 0 1) := (m_193 42).trans rfl
theorem t_193_43 {Ls : Nat} {xs : Nat → Int32} : am_tbl Ls xs 193 43 = some (o_push (.int 16) 2) := (m_193 43).trans rfl
theorem t_193_45 {Ls : Nat} {xs : Nat → Int32} : am_tbl Ls xs 193 45 = some (o_lsh (fun x y => (x.toUInt64 >>> (y.toInt64.toUInt64 &&& Int64.toUInt64 63)).toInt64)) := (m_193 45).trans rfl
theorem t_193_46 {Ls : Nat} {xs : Nat → Int32} : am_tbl Ls xs 193 46 = some (o_lbin (fun x y => x + y)) := (m_193 46).trans rfl
theorem t_193_47 {Ls : Nat} {xs : Nat → Int32} : am_tbl Ls xs 193 47 = some (o_lstore 0 1) := (m_193 47).trans rfl
theorem t_193_48 {Ls : Nat} {xs : Nat → Int32} : am_tbl Ls xs 193 48 = some (o_lload 0 1) := (m_193 48).trans rfl
theorem t_193_49 {Ls : Nat} {xs : Nat → Int32} : am_tbl Ls xs 193 49 = some (o_lload 0 1) := (m_193 49).trans rfl
theorem t_193_50 {Ls : Nat} {xs : Nat → Int32} : am_tbl Ls xs 193 50 = some (o_push (.int 32) 2) := (m_193 50).trans rfl
theorem t_193_52 {Ls : Nat} {xs : Nat → Int32} : am_tbl Ls xs 193 52 = some (o_lsh (fun x y => (x.toUInt64 >>> (y.toInt64.toUInt64 &&& Int64.toUInt64 63)).toInt64)) := (m_193 52).trans rfl
theorem t_193_53 {Ls : Nat} {xs : Nat → Int32} : am_tbl Ls xs 193 53 = some (o_lbin (fun x y => x + y)) := (m_193 53).trans rfl
theorem t_193_54 {Ls : Nat} {xs : Nat → Int32} : am_tbl Ls xs 193 54 = some (o_lstore 0 1) := (m_193 54).trans rfl
theorem t_193_55 {Ls : Nat} {xs : Nat → Int32} : am_tbl Ls xs 193 55 = some (o_lload 0 1) := (m_193 55).trans rfl
theorem t_193_56 {Ls : Nat} {xs : Nat → Int32} : am_tbl Ls xs 193 56 = some (o_l2i) := (m_193 56).trans rfl
theorem t_193_57 {Ls : Nat} {xs : Nat → Int32} : am_tbl Ls xs 193 57 = some (o_push (.int 127) 2) := (m_193 57).trans rfl
theorem t_193_59 {Ls : Nat} {xs : Nat → Int32} : am_tbl Ls xs 193 59 = some (o_ibin (fun x y => x &&& y)) := (m_193 59).trans rfl
theorem t_193_60 {Ls : Nat} {xs : Nat → Int32} : am_tbl Ls xs 193 60 = some (o_iret) := (m_193 60).trans rfl
theorem m_194 {Ls : Nat} {xs : Nat → Int32} (pc : Nat) : am_tbl Ls xs 194 pc = am_lk (op_J0_length_8abf5) pc := rfl
theorem t_194_0 {Ls : Nat} {xs : Nat → Int32} : am_tbl Ls xs 194 0 = some (o_aload 0 1) := (m_194 0).trans rfl
theorem t_194_1 {Ls : Nat} {xs : Nat → Int32} : am_tbl Ls xs 194 1 = some (o_xval) := (m_194 1).trans rfl
theorem t_194_4 {Ls : Nat} {xs : Nat → Int32} : am_tbl Ls xs 194 4 = some (o_xlen) := (m_194 4).trans rfl
theorem t_194_5 {Ls : Nat} {xs : Nat → Int32} : am_tbl Ls xs 194 5 = some (o_aload 0 1) := (m_194 5).trans rfl
theorem t_194_6 {Ls : Nat} {xs : Nat → Int32} : am_tbl Ls xs 194 6 = some (o_callx 196 0 1) := (m_194 6).trans rfl
theorem t_194_9 {Ls : Nat} {xs : Nat → Int32} : am_tbl Ls xs 194 9 = some (o_ibin (fun x y => x >>> (y &&& 31))) := (m_194 9).trans rfl
theorem t_194_10 {Ls : Nat} {xs : Nat → Int32} : am_tbl Ls xs 194 10 = some (o_iret) := (m_194 10).trans rfl
theorem m_195 {Ls : Nat} {xs : Nat → Int32} (pc : Nat) : am_tbl Ls xs 195 pc = am_lk (op_J0_charAt_5068e) pc := rfl
theorem t_195_0 {Ls : Nat} {xs : Nat → Int32} : am_tbl Ls xs 195 0 = some (o_aload 0 1) := (m_195 0).trans rfl
theorem t_195_1 {Ls : Nat} {xs : Nat → Int32} : am_tbl Ls xs 195 1 = some (o_callx 197 0 1) := (m_195 1).trans rfl
theorem t_195_4 {Ls : Nat} {xs : Nat → Int32} : am_tbl Ls xs 195 4 = some (o_if (fun x => decide (x = 0)) 16) := (m_195 4).trans rfl
theorem t_195_7 {Ls : Nat} {xs : Nat → Int32} : am_tbl Ls xs 195 7 = some (o_aload 0 1) := (m_195 7).trans rfl
theorem t_195_8 {Ls : Nat} {xs : Nat → Int32} : am_tbl Ls xs 195 8 = some (o_xval) := (m_195 8).trans rfl
theorem t_195_11 {Ls : Nat} {xs : Nat → Int32} : am_tbl Ls xs 195 11 = some (o_iload 1 1) := (m_195 11).trans rfl
theorem t_195_12 {Ls : Nat} {xs : Nat → Int32} : am_tbl Ls xs 195 12 = some (o_calls 199 2 2) := (m_195 12).trans rfl
theorem t_195_15 {Ls : Nat} {xs : Nat → Int32} : am_tbl Ls xs 195 15 = some (o_nret .char) := (m_195 15).trans rfl
theorem t_195_16 {Ls : Nat} {xs : Nat → Int32} : am_tbl Ls xs 195 16 = some (o_aload 0 1) := (m_195 16).trans rfl
theorem t_195_17 {Ls : Nat} {xs : Nat → Int32} : am_tbl Ls xs 195 17 = some (o_xval) := (m_195 17).trans rfl
theorem t_195_20 {Ls : Nat} {xs : Nat → Int32} : am_tbl Ls xs 195 20 = some (o_iload 1 1) := (m_195 20).trans rfl
theorem t_195_21 {Ls : Nat} {xs : Nat → Int32} : am_tbl Ls xs 195 21 = none := (m_195 21).trans rfl
theorem m_196 {Ls : Nat} {xs : Nat → Int32} (pc : Nat) : am_tbl Ls xs 196 pc = am_lk (op_J0_coder_7d493) pc := rfl
theorem t_196_0 {Ls : Nat} {xs : Nat → Int32} : am_tbl Ls xs 196 0 = some (o_push (.int 1) 3) := (m_196 0).trans rfl
theorem t_196_3 {Ls : Nat} {xs : Nat → Int32} : am_tbl Ls xs 196 3 = some (o_if (fun x => decide (x = 0)) 13) := (m_196 3).trans rfl
theorem t_196_6 {Ls : Nat} {xs : Nat → Int32} : am_tbl Ls xs 196 6 = some (o_aload 0 1) := (m_196 6).trans rfl
theorem t_196_7 {Ls : Nat} {xs : Nat → Int32} : am_tbl Ls xs 196 7 = some (o_xcod) := (m_196 7).trans rfl
theorem t_196_10 {Ls : Nat} {xs : Nat → Int32} : am_tbl Ls xs 196 10 = some (o_goto 14) := (m_196 10).trans rfl
theorem t_196_13 {Ls : Nat} {xs : Nat → Int32} : am_tbl Ls xs 196 13 = some (o_push (.int 1) 1) := (m_196 13).trans rfl
theorem t_196_14 {Ls : Nat} {xs : Nat → Int32} : am_tbl Ls xs 196 14 = some (o_nrm [] (o_nret .byte)) := (m_196 14).trans rfl
theorem m_197 {Ls : Nat} {xs : Nat → Int32} (pc : Nat) : am_tbl Ls xs 197 pc = am_lk (op_J0_isLatin1_aae02) pc := rfl
theorem t_197_0 {Ls : Nat} {xs : Nat → Int32} : am_tbl Ls xs 197 0 = some (o_push (.int 1) 3) := (m_197 0).trans rfl
theorem t_197_3 {Ls : Nat} {xs : Nat → Int32} : am_tbl Ls xs 197 3 = some (o_if (fun x => decide (x = 0)) 17) := (m_197 3).trans rfl
theorem t_197_6 {Ls : Nat} {xs : Nat → Int32} : am_tbl Ls xs 197 6 = some (o_aload 0 1) := (m_197 6).trans rfl
theorem t_197_7 {Ls : Nat} {xs : Nat → Int32} : am_tbl Ls xs 197 7 = some (o_xcod) := (m_197 7).trans rfl
theorem t_197_10 {Ls : Nat} {xs : Nat → Int32} : am_tbl Ls xs 197 10 = some (o_if (fun x => decide (x ≠ 0)) 17) := (m_197 10).trans rfl
theorem t_197_13 {Ls : Nat} {xs : Nat → Int32} : am_tbl Ls xs 197 13 = some (o_push (.int 1) 1) := (m_197 13).trans rfl
theorem t_197_14 {Ls : Nat} {xs : Nat → Int32} : am_tbl Ls xs 197 14 = some (o_goto 18) := (m_197 14).trans rfl
theorem t_197_17 {Ls : Nat} {xs : Nat → Int32} : am_tbl Ls xs 197 17 = some (o_nrm [] (o_push (.int 0) 1)) := (m_197 17).trans rfl
theorem t_197_18 {Ls : Nat} {xs : Nat → Int32} : am_tbl Ls xs 197 18 = some (o_nrm [] (o_zret)) := (m_197 18).trans rfl
theorem m_198 {Ls : Nat} {xs : Nat → Int32} (pc : Nat) : am_tbl Ls xs 198 pc = am_lk (op_J0_checkIndex_df160) pc := rfl
theorem t_198_0 {Ls : Nat} {xs : Nat → Int32} : am_tbl Ls xs 198 0 = some (o_iload 0 1) := (m_198 0).trans rfl
theorem t_198_1 {Ls : Nat} {xs : Nat → Int32} : am_tbl Ls xs 198 1 = some (o_iload 1 1) := (m_198 1).trans rfl
theorem t_198_2 {Ls : Nat} {xs : Nat → Int32} : am_tbl Ls xs 198 2 = some (o_push (.retAddr 0) 3) := (m_198 2).trans rfl
theorem t_198_5 {Ls : Nat} {xs : Nat → Int32} : am_tbl Ls xs 198 5 = some (o_calls 200 3 3) := (m_198 5).trans rfl
theorem t_198_8 {Ls : Nat} {xs : Nat → Int32} : am_tbl Ls xs 198 8 = some (o_pop) := (m_198 8).trans rfl
theorem t_198_9 {Ls : Nat} {xs : Nat → Int32} : am_tbl Ls xs 198 9 = some (o_vret) := (m_198 9).trans rfl
theorem m_199 {Ls : Nat} {xs : Nat → Int32} (pc : Nat) : am_tbl Ls xs 199 pc = am_lk (op_J1_charAt_3b067) pc := rfl
theorem t_199_0 {Ls : Nat} {xs : Nat → Int32} : am_tbl Ls xs 199 0 = some (o_iload 1 1) := (m_199 0).trans rfl
theorem t_199_1 {Ls : Nat} {xs : Nat → Int32} : am_tbl Ls xs 199 1 = some (o_aload 0 1) := (m_199 1).trans rfl
theorem t_199_2 {Ls : Nat} {xs : Nat → Int32} : am_tbl Ls xs 199 2 = some (o_xlen) := (m_199 2).trans rfl
theorem t_199_3 {Ls : Nat} {xs : Nat → Int32} : am_tbl Ls xs 199 3 = some (o_calls 198 2 2) := (m_199 3).trans rfl
theorem t_199_6 {Ls : Nat} {xs : Nat → Int32} : am_tbl Ls xs 199 6 = some (o_aload 0 1) := (m_199 6).trans rfl
theorem t_199_7 {Ls : Nat} {xs : Nat → Int32} : am_tbl Ls xs 199 7 = some (o_iload 1 1) := (m_199 7).trans rfl
theorem t_199_8 {Ls : Nat} {xs : Nat → Int32} : am_tbl Ls xs 199 8 = some (o_xald) := (m_199 8).trans rfl
theorem t_199_9 {Ls : Nat} {xs : Nat → Int32} : am_tbl Ls xs 199 9 = some (o_push (.int 255) 3) := (m_199 9).trans rfl
theorem t_199_12 {Ls : Nat} {xs : Nat → Int32} : am_tbl Ls xs 199 12 = some (o_ibin (fun x y => x &&& y)) := (m_199 12).trans rfl
theorem t_199_13 {Ls : Nat} {xs : Nat → Int32} : am_tbl Ls xs 199 13 = some (o_iun (fun x => (x.toUInt32 % 65536).toInt32)) := (m_199 13).trans rfl
theorem t_199_14 {Ls : Nat} {xs : Nat → Int32} : am_tbl Ls xs 199 14 = some (o_nret .char) := (m_199 14).trans rfl
theorem m_200 {Ls : Nat} {xs : Nat → Int32} (pc : Nat) : am_tbl Ls xs 200 pc = am_lk (op_J3_checkIndex_8e157) pc := rfl
theorem t_200_0 {Ls : Nat} {xs : Nat → Int32} : am_tbl Ls xs 200 0 = some (o_iload 0 1) := (m_200 0).trans rfl
theorem t_200_1 {Ls : Nat} {xs : Nat → Int32} : am_tbl Ls xs 200 1 = some (o_if (fun x => decide (x < 0)) 9) := (m_200 1).trans rfl
theorem t_200_4 {Ls : Nat} {xs : Nat → Int32} : am_tbl Ls xs 200 4 = some (o_iload 0 1) := (m_200 4).trans rfl
theorem t_200_5 {Ls : Nat} {xs : Nat → Int32} : am_tbl Ls xs 200 5 = some (o_iload 1 1) := (m_200 5).trans rfl
theorem t_200_6 {Ls : Nat} {xs : Nat → Int32} : am_tbl Ls xs 200 6 = some (o_icmp (fun x y => decide (x < y)) 16) := (m_200 6).trans rfl
theorem t_200_9 {Ls : Nat} {xs : Nat → Int32} : am_tbl Ls xs 200 9 = some (o_nrm [0, 1, 2] (o_aload 2 1)) := (m_200 9).trans rfl
theorem t_200_16 {Ls : Nat} {xs : Nat → Int32} : am_tbl Ls xs 200 16 = some (o_iload 0 1) := (m_200 16).trans rfl
theorem t_200_17 {Ls : Nat} {xs : Nat → Int32} : am_tbl Ls xs 200 17 = some (o_iret) := (m_200 17).trans rfl
