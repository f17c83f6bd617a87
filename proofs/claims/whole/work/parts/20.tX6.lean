/-! THE TABLES BY PLACE -/
theorem m_184 {Ls : Nat} {xs : Nat → Int32} (pc : Nat) : am_tbl Ls xs 184 pc = am_lk (op_X6_begin) pc := rfl
theorem t_184_0 {Ls : Nat} {xs : Nat → Int32} : am_tbl Ls xs 184 0 = some (o_push (.int 0) 1) := (m_184 0).trans rfl
theorem t_184_1 {Ls : Nat} {xs : Nat → Int32} : am_tbl Ls xs 184 1 = some (o_istore 2 1) := (m_184 1).trans rfl
theorem t_184_2 {Ls : Nat} {xs : Nat → Int32} : am_tbl Ls xs 184 2 = some (o_nrm [0, 1, 2] (o_iload 2 1)) := (m_184 2).trans rfl
theorem t_184_3 {Ls : Nat} {xs : Nat → Int32} : am_tbl Ls xs 184 3 = some (o_push (.int 6) 2) := (m_184 3).trans rfl
theorem t_184_5 {Ls : Nat} {xs : Nat → Int32} : am_tbl Ls xs 184 5 = some (o_icmp (fun x y => decide (y ≤ x)) 40) := (m_184 5).trans rfl
theorem t_184_8 {Ls : Nat} {xs : Nat → Int32} : am_tbl Ls xs 184 8 = some (o_aload 0 1) := (m_184 8).trans rfl
theorem t_184_9 {Ls : Nat} {xs : Nat → Int32} : am_tbl Ls xs 184 9 = some (o_get 6 0) := (m_184 9).trans rfl
theorem t_184_12 {Ls : Nat} {xs : Nat → Int32} : am_tbl Ls xs 184 12 = some (o_iload 2 1) := (m_184 12).trans rfl
theorem t_184_13 {Ls : Nat} {xs : Nat → Int32} : am_tbl Ls xs 184 13 = some (o_aload 1 1) := (m_184 13).trans rfl
theorem t_184_14 {Ls : Nat} {xs : Nat → Int32} : am_tbl Ls xs 184 14 = some (o_get 2 9) := (m_184 14).trans rfl
theorem t_184_17 {Ls : Nat} {xs : Nat → Int32} : am_tbl Ls xs 184 17 = some (o_iload 2 1) := (m_184 17).trans rfl
theorem t_184_18 {Ls : Nat} {xs : Nat → Int32} : am_tbl Ls xs 184 18 = some (o_iald 1) := (m_184 18).trans rfl
theorem t_184_19 {Ls : Nat} {xs : Nat → Int32} : am_tbl Ls xs 184 19 = some (o_iast 1 (fun x => x)) := (m_184 19).trans rfl
theorem t_184_20 {Ls : Nat} {xs : Nat → Int32} : am_tbl Ls xs 184 20 = some (o_aload 0 1) := (m_184 20).trans rfl
theorem t_184_21 {Ls : Nat} {xs : Nat → Int32} : am_tbl Ls xs 184 21 = some (o_get 6 1) := (m_184 21).trans rfl
theorem t_184_24 {Ls : Nat} {xs : Nat → Int32} : am_tbl Ls xs 184 24 = some (o_iload 2 1) := (m_184 24).trans rfl
theorem t_184_25 {Ls : Nat} {xs : Nat → Int32} : am_tbl Ls xs 184 25 = some (o_push (.int 0) 1) := (m_184 25).trans rfl
theorem t_184_26 {Ls : Nat} {xs : Nat → Int32} : am_tbl Ls xs 184 26 = some (o_iast 1 (fun x => x)) := (m_184 26).trans rfl
theorem t_184_27 {Ls : Nat} {xs : Nat → Int32} : am_tbl Ls xs 184 27 = some (o_aload 0 1) := (m_184 27).trans rfl
theorem t_184_28 {Ls : Nat} {xs : Nat → Int32} : am_tbl Ls xs 184 28 = some (o_get 6 2) := (m_184 28).trans rfl
theorem t_184_31 {Ls : Nat} {xs : Nat → Int32} : am_tbl Ls xs 184 31 = some (o_iload 2 1) := (m_184 31).trans rfl
theorem t_184_32 {Ls : Nat} {xs : Nat → Int32} : am_tbl Ls xs 184 32 = some (o_push (.int 0) 1) := (m_184 32).trans rfl
theorem t_184_33 {Ls : Nat} {xs : Nat → Int32} : am_tbl Ls xs 184 33 = some (o_iast 1 (fun x => x)) := (m_184 33).trans rfl
theorem t_184_34 {Ls : Nat} {xs : Nat → Int32} : am_tbl Ls xs 184 34 = some (o_iinc 2 1) := (m_184 34).trans rfl
theorem t_184_37 {Ls : Nat} {xs : Nat → Int32} : am_tbl Ls xs 184 37 = some (o_goto 2) := (m_184 37).trans rfl
theorem t_184_40 {Ls : Nat} {xs : Nat → Int32} : am_tbl Ls xs 184 40 = some (o_push (.int 0) 1) := (m_184 40).trans rfl
theorem t_184_41 {Ls : Nat} {xs : Nat → Int32} : am_tbl Ls xs 184 41 = some (o_istore 2 1) := (m_184 41).trans rfl
theorem t_184_42 {Ls : Nat} {xs : Nat → Int32} : am_tbl Ls xs 184 42 = some (o_nrm [0, 1, 2] (o_iload 2 1)) := (m_184 42).trans rfl
theorem t_184_43 {Ls : Nat} {xs : Nat → Int32} : am_tbl Ls xs 184 43 = some (o_push (.int 48) 2) := (m_184 43).trans rfl
theorem t_184_45 {Ls : Nat} {xs : Nat → Int32} : am_tbl Ls xs 184 45 = some (o_icmp (fun x y => decide (y ≤ x)) 66) := (m_184 45).trans rfl
theorem t_184_48 {Ls : Nat} {xs : Nat → Int32} : am_tbl Ls xs 184 48 = some (o_aload 0 1) := (m_184 48).trans rfl
theorem t_184_49 {Ls : Nat} {xs : Nat → Int32} : am_tbl Ls xs 184 49 = some (o_get 6 3) := (m_184 49).trans rfl
theorem t_184_52 {Ls : Nat} {xs : Nat → Int32} : am_tbl Ls xs 184 52 = some (o_iload 2 1) := (m_184 52).trans rfl
theorem t_184_53 {Ls : Nat} {xs : Nat → Int32} : am_tbl Ls xs 184 53 = some (o_aload 1 1) := (m_184 53).trans rfl
theorem t_184_54 {Ls : Nat} {xs : Nat → Int32} : am_tbl Ls xs 184 54 = some (o_get 2 11) := (m_184 54).trans rfl
theorem t_184_57 {Ls : Nat} {xs : Nat → Int32} : am_tbl Ls xs 184 57 = some (o_iload 2 1) := (m_184 57).trans rfl
theorem t_184_58 {Ls : Nat} {xs : Nat → Int32} : am_tbl Ls xs 184 58 = some (o_iald 1) := (m_184 58).trans rfl
theorem t_184_59 {Ls : Nat} {xs : Nat → Int32} : am_tbl Ls xs 184 59 = some (o_iast 1 (fun x => x)) := (m_184 59).trans rfl
theorem t_184_60 {Ls : Nat} {xs : Nat → Int32} : am_tbl Ls xs 184 60 = some (o_iinc 2 1) := (m_184 60).trans rfl
theorem t_184_63 {Ls : Nat} {xs : Nat → Int32} : am_tbl Ls xs 184 63 = some (o_goto 42) := (m_184 63).trans rfl
theorem t_184_66 {Ls : Nat} {xs : Nat → Int32} : am_tbl Ls xs 184 66 = some (o_aload 0 1) := (m_184 66).trans rfl
theorem t_184_67 {Ls : Nat} {xs : Nat → Int32} : am_tbl Ls xs 184 67 = some (o_push (.int 0) 1) := (m_184 67).trans rfl
theorem t_184_68 {Ls : Nat} {xs : Nat → Int32} : am_tbl Ls xs 184 68 = some (o_puti 6 4) := (m_184 68).trans rfl
theorem t_184_71 {Ls : Nat} {xs : Nat → Int32} : am_tbl Ls xs 184 71 = some (o_vret) := (m_184 71).trans rfl
theorem m_185 {Ls : Nat} {xs : Nat → Int32} (pc : Nat) : am_tbl Ls xs 185 pc = am_lk (op_X6_copyFrom) pc := rfl
theorem t_185_0 {Ls : Nat} {xs : Nat → Int32} : am_tbl Ls xs 185 0 = some (o_push (.int 0) 1) := (m_185 0).trans rfl
theorem t_185_1 {Ls : Nat} {xs : Nat → Int32} : am_tbl Ls xs 185 1 = some (o_istore 2 1) := (m_185 1).trans rfl
theorem t_185_2 {Ls : Nat} {xs : Nat → Int32} : am_tbl Ls xs 185 2 = some (o_nrm [0, 1, 2] (o_iload 2 1)) := (m_185 2).trans rfl
theorem t_185_3 {Ls : Nat} {xs : Nat → Int32} : am_tbl Ls xs 185 3 = some (o_push (.int 6) 2) := (m_185 3).trans rfl
theorem t_185_5 {Ls : Nat} {xs : Nat → Int32} : am_tbl Ls xs 185 5 = some (o_icmp (fun x y => decide (y ≤ x)) 50) := (m_185 5).trans rfl
theorem t_185_8 {Ls : Nat} {xs : Nat → Int32} : am_tbl Ls xs 185 8 = some (o_aload 0 1) := (m_185 8).trans rfl
theorem t_185_9 {Ls : Nat} {xs : Nat → Int32} : am_tbl Ls xs 185 9 = some (o_get 6 0) := (m_185 9).trans rfl
theorem t_185_12 {Ls : Nat} {xs : Nat → Int32} : am_tbl Ls xs 185 12 = some (o_iload 2 1) := (m_185 12).trans rfl
theorem t_185_13 {Ls : Nat} {xs : Nat → Int32} : am_tbl Ls xs 185 13 = some (o_aload 1 1) := (m_185 13).trans rfl
theorem t_185_14 {Ls : Nat} {xs : Nat → Int32} : am_tbl Ls xs 185 14 = some (o_get 6 0) := (m_185 14).trans rfl
theorem t_185_17 {Ls : Nat} {xs : Nat → Int32} : am_tbl Ls xs 185 17 = some (o_iload 2 1) := (m_185 17).trans rfl
theorem t_185_18 {Ls : Nat} {xs : Nat → Int32} : am_tbl Ls xs 185 18 = some (o_iald 1) := (m_185 18).trans rfl
theorem t_185_19 {Ls : Nat} {xs : Nat → Int32} : am_tbl Ls xs 185 19 = some (o_iast 1 (fun x => x)) := (m_185 19).trans rfl
theorem t_185_20 {Ls : Nat} {xs : Nat → Int32} : am_tbl Ls xs 185 20 = some (o_aload 0 1) := (m_185 20).trans rfl
theorem t_185_21 {Ls : Nat} {xs : Nat → Int32} : am_tbl Ls xs 185 21 = some (o_get 6 1) := (m_185 21).trans rfl
theorem t_185_24 {Ls : Nat} {xs : Nat → Int32} : am_tbl Ls xs 185 24 = some (o_iload 2 1) := (m_185 24).trans rfl
theorem t_185_25 {Ls : Nat} {xs : Nat → Int32} : am_tbl Ls xs 185 25 = some (o_aload 1 1) := (m_185 25).trans rfl
theorem t_185_26 {Ls : Nat} {xs : Nat → Int32} : am_tbl Ls xs 185 26 = some (o_get 6 1) := (m_185 26).trans rfl
theorem t_185_29 {Ls : Nat} {xs : Nat → Int32} : am_tbl Ls xs 185 29 = some (o_iload 2 1) := (m_185 29).trans rfl
theorem t_185_30 {Ls : Nat} {xs : Nat → Int32} : am_tbl Ls xs 185 30 = some (o_iald 1) := (m_185 30).trans rfl
theorem t_185_31 {Ls : Nat} {xs : Nat → Int32} : am_tbl Ls xs 185 31 = some (o_iast 1 (fun x => x)) := (m_185 31).trans rfl
theorem t_185_32 {Ls : Nat} {xs : Nat → Int32} : am_tbl Ls xs 185 32 = some (o_aload 0 1) := (m_185 32).trans rfl
theorem t_185_33 {Ls : Nat} {xs : Nat → Int32} : am_tbl Ls xs 185 33 = some (o_get 6 2) := (m_185 33).trans rfl
theorem t_185_36 {Ls : Nat} {xs : Nat → Int32} : am_tbl Ls xs 185 36 = some (o_iload 2 1) := (m_185 36).trans rfl
theorem t_185_37 {Ls : Nat} {xs : Nat → Int32} : am_tbl Ls xs 185 37 = some (o_aload 1 1) := (m_185 37).trans rfl
theorem t_185_38 {Ls : Nat} {xs : Nat → Int32} : am_tbl Ls xs 185 38 = some (o_get 6 2) := (m_185 38).trans rfl
theorem t_185_41 {Ls : Nat} {xs : Nat → Int32} : am_tbl Ls xs 185 41 = some (o_iload 2 1) := (m_185 41).trans rfl
theorem t_185_42 {Ls : Nat} {xs : Nat → Int32} : am_tbl Ls xs 185 42 = some (o_iald 1) := (m_185 42).trans rfl
theorem t_185_43 {Ls : Nat} {xs : Nat → Int32} : am_tbl Ls xs 185 43 = some (o_iast 1 (fun x => x)) := (m_185 43).trans rfl
theorem t_185_44 {Ls : Nat} {xs : Nat → Int32} : am_tbl Ls xs 185 44 = some (o_iinc 2 1) := (m_185 44).trans rfl
theorem t_185_47 {Ls : Nat} {xs : Nat → Int32} : am_tbl Ls xs 185 47 = some (o_goto 2) := (m_185 47).trans rfl
theorem t_185_50 {Ls : Nat} {xs : Nat → Int32} : am_tbl Ls xs 185 50 = some (o_push (.int 0) 1) := (m_185 50).trans rfl
theorem t_185_51 {Ls : Nat} {xs : Nat → Int32} : am_tbl Ls xs 185 51 = some (o_istore 2 1) := (m_185 51).trans rfl
theorem t_185_52 {Ls : Nat} {xs : Nat → Int32} : am_tbl Ls xs 185 52 = some (o_nrm [0, 1, 2] (o_iload 2 1)) := (m_185 52).trans rfl
theorem t_185_53 {Ls : Nat} {xs : Nat → Int32} : am_tbl Ls xs 185 53 = some (o_push (.int 48) 2) := (m_185 53).trans rfl
theorem t_185_55 {Ls : Nat} {xs : Nat → Int32} : am_tbl Ls xs 185 55 = some (o_icmp (fun x y => decide (y ≤ x)) 76) := (m_185 55).trans rfl
theorem t_185_58 {Ls : Nat} {xs : Nat → Int32} : am_tbl Ls xs 185 58 = some (o_aload 0 1) := (m_185 58).trans rfl
theorem t_185_59 {Ls : Nat} {xs : Nat → Int32} : am_tbl Ls xs 185 59 = some (o_get 6 3) := (m_185 59).trans rfl
theorem t_185_62 {Ls : Nat} {xs : Nat → Int32} : am_tbl Ls xs 185 62 = some (o_iload 2 1) := (m_185 62).trans rfl
theorem t_185_63 {Ls : Nat} {xs : Nat → Int32} : am_tbl Ls xs 185 63 = some (o_aload 1 1) := (m_185 63).trans rfl
theorem t_185_64 {Ls : Nat} {xs : Nat → Int32} : am_tbl Ls xs 185 64 = some (o_get 6 3) := (m_185 64).trans rfl
theorem t_185_67 {Ls : Nat} {xs : Nat → Int32} : am_tbl Ls xs 185 67 = some (o_iload 2 1) := (m_185 67).trans rfl
theorem t_185_68 {Ls : Nat} {xs : Nat → Int32} : am_tbl Ls xs 185 68 = some (o_iald 1) := (m_185 68).trans rfl
theorem t_185_69 {Ls : Nat} {xs : Nat → Int32} : am_tbl Ls xs 185 69 = some (o_iast 1 (fun x => x)) := (m_185 69).trans rfl
theorem t_185_70 {Ls : Nat} {xs : Nat → Int32} : am_tbl Ls xs 185 70 = some (o_iinc 2 1) := (m_185 70).trans rfl
theorem t_185_73 {Ls : Nat} {xs : Nat → Int32} : am_tbl Ls xs 185 73 = some (o_goto 52) := (m_185 73).trans rfl
theorem t_185_76 {Ls : Nat} {xs : Nat → Int32} : am_tbl Ls xs 185 76 = some (o_aload 0 1) := (m_185 76).trans rfl
theorem t_185_77 {Ls : Nat} {xs : Nat → Int32} : am_tbl Ls xs 185 77 = some (o_aload 1 1) := (m_185 77).trans rfl
theorem t_185_78 {Ls : Nat} {xs : Nat → Int32} : am_tbl Ls xs 185 78 = some (o_get 6 4) := (m_185 78).trans rfl
theorem t_185_81 {Ls : Nat} {xs : Nat → Int32} : am_tbl Ls xs 185 81 = some (o_puti 6 4) := (m_185 81).trans rfl
theorem t_185_84 {Ls : Nat} {xs : Nat → Int32} : am_tbl Ls xs 185 84 = some (o_aload 0 1) := (m_185 84).trans rfl
theorem t_185_85 {Ls : Nat} {xs : Nat → Int32} : am_tbl Ls xs 185 85 = some (o_aload 1 1) := (m_185 85).trans rfl
theorem t_185_86 {Ls : Nat} {xs : Nat → Int32} : am_tbl Ls xs 185 86 = some (o_get 6 5) := (m_185 86).trans rfl
theorem t_185_89 {Ls : Nat} {xs : Nat → Int32} : am_tbl Ls xs 185 89 = some (o_puti 6 5) := (m_185 89).trans rfl
theorem t_185_92 {Ls : Nat} {xs : Nat → Int32} : am_tbl Ls xs 185 92 = some (o_aload 0 1) := (m_185 92).trans rfl
theorem t_185_93 {Ls : Nat} {xs : Nat → Int32} : am_tbl Ls xs 185 93 = some (o_aload 1 1) := (m_185 93).trans rfl
theorem t_185_94 {Ls : Nat} {xs : Nat → Int32} : am_tbl Ls xs 185 94 = some (o_get 6 6) := (m_185 94).trans rfl
theorem t_185_97 {Ls : Nat} {xs : Nat → Int32} : am_tbl Ls xs 185 97 = some (o_puti 6 6) := (m_185 97).trans rfl
theorem t_185_100 {Ls : Nat} {xs : Nat → Int32} : am_tbl Ls xs 185 100 = some (o_vret) := (m_185 100).trans rfl
theorem m_186 {Ls : Nat} {xs : Nat → Int32} (pc : Nat) : am_tbl Ls xs 186 pc = am_lk (op_X6_draw) pc := rfl
theorem t_186_0 {Ls : Nat} {xs : Nat → Int32} : am_tbl Ls xs 186 0 = some (o_iload 1 1) := (m_186 0).trans rfl
theorem t_186_1 {Ls : Nat} {xs : Nat → Int32} : am_tbl Ls xs 186 1 = some (o_push (.int 1) 1) := (m_186 1).trans rfl
theorem t_186_2 {Ls : Nat} {xs : Nat → Int32} : am_tbl Ls xs 186 2 = some (o_icmp (fun x y => decide (y ≤ x)) 7) := (m_186 2).trans rfl
theorem t_186_5 {Ls : Nat} {xs : Nat → Int32} : am_tbl Ls xs 186 5 = some (o_push (.int 0) 1) := (m_186 5).trans rfl
theorem t_186_6 {Ls : Nat} {xs : Nat → Int32} : am_tbl Ls xs 186 6 = some (o_iret) := (m_186 6).trans rfl
theorem t_186_7 {Ls : Nat} {xs : Nat → Int32} : am_tbl Ls xs 186 7 = some (o_aload 0 1) := (m_186 7).trans rfl
theorem t_186_8 {Ls : Nat} {xs : Nat → Int32} : am_tbl Ls xs 186 8 = some (o_aload 0 1) := (m_186 8).trans rfl
theorem t_186_9 {Ls : Nat} {xs : Nat → Int32} : am_tbl Ls xs 186 9 = some (o_get 6 6) := (m_186 9).trans rfl
theorem t_186_12 {Ls : Nat} {xs : Nat → Int32} : am_tbl Ls xs 186 12 = some (o_i2l) := (m_186 12).trans rfl
theorem t_186_13 {Ls : Nat} {xs : Nat → Int32} : am_tbl Ls xs 186 13 = some (o_push (.long 1103515245) 3) := (m_186 13).trans rfl
theorem t_186_16 {Ls : Nat} {xs : Nat → Int32} : am_tbl Ls xs 186 16 = some (o_lbin (fun x y => x * y)) := (m_186 16).trans rfl
theorem t_186_17 {Ls : Nat} {xs : Nat → Int32} : am_tbl Ls xs 186 17 = some (o_push (.long 12345) 3) := (m_186 17).trans rfl
theorem t_186_20 {Ls : Nat} {xs : Nat → Int32} : am_tbl Ls xs 186 20 = some (o_lbin (fun x y => x + y)) := (m_186 20).trans rfl
theorem t_186_21 {Ls : Nat} {xs : Nat → Int32} : am_tbl Ls xs 186 21 = some (o_push (.long 2147483647) 3) := (m_186 21).trans rfl
theorem t_186_24 {Ls : Nat} {xs : Nat → Int32} : am_tbl Ls xs 186 24 = some (o_lbin (fun x y => x &&& y)) := (m_186 24).trans rfl
theorem t_186_25 {Ls : Nat} {xs : Nat → Int32} : am_tbl Ls xs 186 25 = some (o_l2i) := (m_186 25).trans rfl
theorem t_186_26 {Ls : Nat} {xs : Nat → Int32} : am_tbl Ls xs 186 26 = some (o_puti 6 6) := (m_186 26).trans rfl
theorem t_186_29 {Ls : Nat} {xs : Nat → Int32} : am_tbl Ls xs 186 29 = some (o_aload 0 1) := (m_186 29).trans rfl
theorem t_186_30 {Ls : Nat} {xs : Nat → Int32} : am_tbl Ls xs 186 30 = some (o_get 6 6) := (m_186 30).trans rfl
theorem t_186_33 {Ls : Nat} {xs : Nat → Int32} : am_tbl Ls xs 186 33 = some (o_push (.int 65536) 2) := (m_186 33).trans rfl
theorem t_186_35 {Ls : Nat} {xs : Nat → Int32} : am_tbl Ls xs 186 35 = some (o_idv (fun x y => x / y)) := (m_186 35).trans rfl
theorem t_186_36 {Ls : Nat} {xs : Nat → Int32} : am_tbl Ls xs 186 36 = some (o_iload 1 1) := (m_186 36).trans rfl
theorem t_186_37 {Ls : Nat} {xs : Nat → Int32} : am_tbl Ls xs 186 37 = some (o_idv (fun x y => x - x / y * y)) := (m_186 37).trans rfl
theorem t_186_38 {Ls : Nat} {xs : Nat → Int32} : am_tbl Ls xs 186 38 = some (o_iret) := (m_186 38).trans rfl
