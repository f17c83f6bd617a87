/-! THE TABLES BY PLACE -/
theorem m_119 {Ls : Nat} {xs : Nat → Int32} (pc : Nat) : am_tbl Ls xs 119 pc = am_lk (op_X1_isFree) pc := rfl
theorem t_119_0 {Ls : Nat} {xs : Nat → Int32} : am_tbl Ls xs 119 0 = some (o_aload 0 1) := (m_119 0).trans rfl
theorem t_119_1 {Ls : Nat} {xs : Nat → Int32} : am_tbl Ls xs 119 1 = some (o_get 1 1) := (m_119 1).trans rfl
theorem t_119_4 {Ls : Nat} {xs : Nat → Int32} : am_tbl Ls xs 119 4 = some (o_iload 1 1) := (m_119 4).trans rfl
theorem t_119_5 {Ls : Nat} {xs : Nat → Int32} : am_tbl Ls xs 119 5 = some (o_callv 133 1 2 2) := (m_119 5).trans rfl
theorem t_119_8 {Ls : Nat} {xs : Nat → Int32} : am_tbl Ls xs 119 8 = some (o_if (fun x => decide (x = 0)) 38) := (m_119 8).trans rfl
theorem t_119_11 {Ls : Nat} {xs : Nat → Int32} : am_tbl Ls xs 119 11 = some (o_aload 0 1) := (m_119 11).trans rfl
theorem t_119_12 {Ls : Nat} {xs : Nat → Int32} : am_tbl Ls xs 119 12 = some (o_get 1 2) := (m_119 12).trans rfl
theorem t_119_15 {Ls : Nat} {xs : Nat → Int32} : am_tbl Ls xs 119 15 = some (o_get 6 3) := (m_119 15).trans rfl
theorem t_119_18 {Ls : Nat} {xs : Nat → Int32} : am_tbl Ls xs 119 18 = some (o_iload 1 1) := (m_119 18).trans rfl
theorem t_119_19 {Ls : Nat} {xs : Nat → Int32} : am_tbl Ls xs 119 19 = some (o_iald 1) := (m_119 19).trans rfl
theorem t_119_20 {Ls : Nat} {xs : Nat → Int32} : am_tbl Ls xs 119 20 = some (o_if (fun x => decide (x ≠ 0)) 38) := (m_119 20).trans rfl
theorem t_119_23 {Ls : Nat} {xs : Nat → Int32} : am_tbl Ls xs 119 23 = some (o_aload 0 1) := (m_119 23).trans rfl
theorem t_119_24 {Ls : Nat} {xs : Nat → Int32} : am_tbl Ls xs 119 24 = some (o_get 1 0) := (m_119 24).trans rfl
theorem t_119_27 {Ls : Nat} {xs : Nat → Int32} : am_tbl Ls xs 119 27 = some (o_iload 1 1) := (m_119 27).trans rfl
theorem t_119_28 {Ls : Nat} {xs : Nat → Int32} : am_tbl Ls xs 119 28 = some (o_callv 171 1 5 3) := (m_119 28).trans rfl
theorem t_119_31 {Ls : Nat} {xs : Nat → Int32} : am_tbl Ls xs 119 31 = some (o_if (fun x => decide (x ≠ 0)) 38) := (m_119 31).trans rfl
theorem t_119_34 {Ls : Nat} {xs : Nat → Int32} : am_tbl Ls xs 119 34 = some (o_push (.int 1) 1) := (m_119 34).trans rfl
theorem t_119_35 {Ls : Nat} {xs : Nat → Int32} : am_tbl Ls xs 119 35 = some (o_goto 39) := (m_119 35).trans rfl
theorem t_119_38 {Ls : Nat} {xs : Nat → Int32} : am_tbl Ls xs 119 38 = some (o_nrm [] (o_push (.int 0) 1)) := (m_119 38).trans rfl
theorem t_119_39 {Ls : Nat} {xs : Nat → Int32} : am_tbl Ls xs 119 39 = some (o_nrm [] (o_zret)) := (m_119 39).trans rfl
theorem m_120 {Ls : Nat} {xs : Nat → Int32} (pc : Nat) : am_tbl Ls xs 120 pc = am_lk (op_X1_bestFor) pc := rfl
theorem t_120_0 {Ls : Nat} {xs : Nat → Int32} : am_tbl Ls xs 120 0 = some (o_push (.int (-1)) 1) := (m_120 0).trans rfl
theorem t_120_1 {Ls : Nat} {xs : Nat → Int32} : am_tbl Ls xs 120 1 = some (o_istore 3 1) := (m_120 1).trans rfl
theorem t_120_2 {Ls : Nat} {xs : Nat → Int32} : am_tbl Ls xs 120 2 = some (o_push (.int 1000000000) 2) := (m_120 2).trans rfl
theorem t_120_4 {Ls : Nat} {xs : Nat → Int32} : am_tbl Ls xs 120 4 = some (o_istore 4 2) := (m_120 4).trans rfl
theorem t_120_6 {Ls : Nat} {xs : Nat → Int32} : am_tbl Ls xs 120 6 = some (o_push (.int 0) 1) := (m_120 6).trans rfl
theorem t_120_7 {Ls : Nat} {xs : Nat → Int32} : am_tbl Ls xs 120 7 = some (o_istore 5 2) := (m_120 7).trans rfl
theorem t_120_9 {Ls : Nat} {xs : Nat → Int32} : am_tbl Ls xs 120 9 = some (o_nrm [0, 1, 2, 3, 4, 5] (o_iload 5 2)) := (m_120 9).trans rfl
theorem t_120_11 {Ls : Nat} {xs : Nat → Int32} : am_tbl Ls xs 120 11 = some (o_aload 0 1) := (m_120 11).trans rfl
theorem t_120_12 {Ls : Nat} {xs : Nat → Int32} : am_tbl Ls xs 120 12 = some (o_get 1 1) := (m_120 12).trans rfl
theorem t_120_15 {Ls : Nat} {xs : Nat → Int32} : am_tbl Ls xs 120 15 = some (o_get 2 2) := (m_120 15).trans rfl
theorem t_120_18 {Ls : Nat} {xs : Nat → Int32} : am_tbl Ls xs 120 18 = some (o_icmp (fun x y => decide (y ≤ x)) 95) := (m_120 18).trans rfl
theorem t_120_21 {Ls : Nat} {xs : Nat → Int32} : am_tbl Ls xs 120 21 = some (o_aload 0 1) := (m_120 21).trans rfl
theorem t_120_22 {Ls : Nat} {xs : Nat → Int32} : am_tbl Ls xs 120 22 = some (o_get 1 2) := (m_120 22).trans rfl
theorem t_120_25 {Ls : Nat} {xs : Nat → Int32} : am_tbl Ls xs 120 25 = some (o_get 6 3) := (m_120 25).trans rfl
theorem t_120_28 {Ls : Nat} {xs : Nat → Int32} : am_tbl Ls xs 120 28 = some (o_iload 5 2) := (m_120 28).trans rfl
theorem t_120_30 {Ls : Nat} {xs : Nat → Int32} : am_tbl Ls xs 120 30 = some (o_iald 1) := (m_120 30).trans rfl
theorem t_120_31 {Ls : Nat} {xs : Nat → Int32} : am_tbl Ls xs 120 31 = some (o_if (fun x => decide (x ≤ 0)) 37) := (m_120 31).trans rfl
theorem t_120_34 {Ls : Nat} {xs : Nat → Int32} : am_tbl Ls xs 120 34 = some (o_goto 89) := (m_120 34).trans rfl
theorem t_120_37 {Ls : Nat} {xs : Nat → Int32} : am_tbl Ls xs 120 37 = some (o_iload 2 1) := (m_120 37).trans rfl
theorem t_120_38 {Ls : Nat} {xs : Nat → Int32} : am_tbl Ls xs 120 38 = some (o_if (fun x => decide (x ≠ 0)) 63) := (m_120 38).trans rfl
theorem t_120_41 {Ls : Nat} {xs : Nat → Int32} : am_tbl Ls xs 120 41 = some (o_aload 0 1) := (m_120 41).trans rfl
theorem t_120_42 {Ls : Nat} {xs : Nat → Int32} : am_tbl Ls xs 120 42 = some (o_get 1 0) := (m_120 42).trans rfl
theorem t_120_45 {Ls : Nat} {xs : Nat → Int32} : am_tbl Ls xs 120 45 = some (o_iload 1 1) := (m_120 45).trans rfl
theorem t_120_46 {Ls : Nat} {xs : Nat → Int32} : am_tbl Ls xs 120 46 = some (o_iload 5 2) := (m_120 46).trans rfl
theorem t_120_48 {Ls : Nat} {xs : Nat → Int32} : am_tbl Ls xs 120 48 = some (o_aload 0 1) := (m_120 48).trans rfl
theorem t_120_49 {Ls : Nat} {xs : Nat → Int32} : am_tbl Ls xs 120 49 = some (o_get 1 0) := (m_120 49).trans rfl
theorem t_120_52 {Ls : Nat} {xs : Nat → Int32} : am_tbl Ls xs 120 52 = some (o_iload 1 1) := (m_120 52).trans rfl
theorem t_120_53 {Ls : Nat} {xs : Nat → Int32} : am_tbl Ls xs 120 53 = some (o_callv 170 1 5 2) := (m_120 53).trans rfl
theorem t_120_56 {Ls : Nat} {xs : Nat → Int32} : am_tbl Ls xs 120 56 = some (o_push (.int (-1)) 1) := (m_120 56).trans rfl
theorem t_120_57 {Ls : Nat} {xs : Nat → Int32} : am_tbl Ls xs 120 57 = some (o_callv 177 4 5 7) := (m_120 57).trans rfl
theorem t_120_60 {Ls : Nat} {xs : Nat → Int32} : am_tbl Ls xs 120 60 = some (o_goto 73) := (m_120 60).trans rfl
theorem t_120_63 {Ls : Nat} {xs : Nat → Int32} : am_tbl Ls xs 120 63 = some (o_aload 0 1) := (m_120 63).trans rfl
theorem t_120_64 {Ls : Nat} {xs : Nat → Int32} : am_tbl Ls xs 120 64 = some (o_get 1 0) := (m_120 64).trans rfl
theorem t_120_67 {Ls : Nat} {xs : Nat → Int32} : am_tbl Ls xs 120 67 = some (o_iload 1 1) := (m_120 67).trans rfl
theorem t_120_68 {Ls : Nat} {xs : Nat → Int32} : am_tbl Ls xs 120 68 = some (o_iload 5 2) := (m_120 68).trans rfl
theorem t_120_70 {Ls : Nat} {xs : Nat → Int32} : am_tbl Ls xs 120 70 = some (o_callv 180 2 5 5) := (m_120 70).trans rfl
theorem t_120_73 {Ls : Nat} {xs : Nat → Int32} : am_tbl Ls xs 120 73 = some (o_nrm [0, 1, 2, 3, 4, 5] (o_istore 6 2)) := (m_120 73).trans rfl
theorem t_120_75 {Ls : Nat} {xs : Nat → Int32} : am_tbl Ls xs 120 75 = some (o_iload 6 2) := (m_120 75).trans rfl
theorem t_120_77 {Ls : Nat} {xs : Nat → Int32} : am_tbl Ls xs 120 77 = some (o_iload 4 2) := (m_120 77).trans rfl
theorem t_120_79 {Ls : Nat} {xs : Nat → Int32} : am_tbl Ls xs 120 79 = some (o_icmp (fun x y => decide (y ≤ x)) 89) := (m_120 79).trans rfl
theorem t_120_82 {Ls : Nat} {xs : Nat → Int32} : am_tbl Ls xs 120 82 = some (o_iload 6 2) := (m_120 82).trans rfl
theorem t_120_84 {Ls : Nat} {xs : Nat → Int32} : am_tbl Ls xs 120 84 = some (o_istore 4 2) := (m_120 84).trans rfl
theorem t_120_86 {Ls : Nat} {xs : Nat → Int32} : am_tbl Ls xs 120 86 = some (o_iload 5 2) := (m_120 86).trans rfl
theorem t_120_88 {Ls : Nat} {xs : Nat → Int32} : am_tbl Ls xs 120 88 = some (o_istore 3 1) := (m_120 88).trans rfl
theorem t_120_89 {Ls : Nat} {xs : Nat → Int32} : am_tbl Ls xs 120 89 = some (o_nrm [0, 1, 2, 3, 4, 5] (o_iinc 5 1)) := (m_120 89).trans rfl
theorem t_120_92 {Ls : Nat} {xs : Nat → Int32} : am_tbl Ls xs 120 92 = some (o_goto 9) := (m_120 92).trans rfl
theorem t_120_95 {Ls : Nat} {xs : Nat → Int32} : am_tbl Ls xs 120 95 = some (o_iload 3 1) := (m_120 95).trans rfl
theorem t_120_96 {Ls : Nat} {xs : Nat → Int32} : am_tbl Ls xs 120 96 = some (o_iret) := (m_120 96).trans rfl
theorem m_121 {Ls : Nat} {xs : Nat → Int32} (pc : Nat) : am_tbl Ls xs 121 pc = am_lk (op_X1_meanBehind) pc := rfl
theorem t_121_0 {Ls : Nat} {xs : Nat → Int32} : am_tbl Ls xs 121 0 = some (o_aload 0 1) := (m_121 0).trans rfl
theorem t_121_1 {Ls : Nat} {xs : Nat → Int32} : am_tbl Ls xs 121 1 = some (o_get 1 1) := (m_121 1).trans rfl
theorem t_121_4 {Ls : Nat} {xs : Nat → Int32} : am_tbl Ls xs 121 4 = some (o_iload 1 1) := (m_121 4).trans rfl
theorem t_121_5 {Ls : Nat} {xs : Nat → Int32} : am_tbl Ls xs 121 5 = some (o_callv 133 1 2 2) := (m_121 5).trans rfl
theorem t_121_8 {Ls : Nat} {xs : Nat → Int32} : am_tbl Ls xs 121 8 = some (o_if (fun x => decide (x ≠ 0)) 13) := (m_121 8).trans rfl
theorem t_121_11 {Ls : Nat} {xs : Nat → Int32} : am_tbl Ls xs 121 11 = some (o_push (.int 0) 1) := (m_121 11).trans rfl
theorem t_121_12 {Ls : Nat} {xs : Nat → Int32} : am_tbl Ls xs 121 12 = some (o_iret) := (m_121 12).trans rfl
theorem t_121_13 {Ls : Nat} {xs : Nat → Int32} : am_tbl Ls xs 121 13 = some (o_aload 0 1) := (m_121 13).trans rfl
theorem t_121_14 {Ls : Nat} {xs : Nat → Int32} : am_tbl Ls xs 121 14 = some (o_get 1 2) := (m_121 14).trans rfl
theorem t_121_17 {Ls : Nat} {xs : Nat → Int32} : am_tbl Ls xs 121 17 = some (o_get 6 3) := (m_121 17).trans rfl
theorem t_121_20 {Ls : Nat} {xs : Nat → Int32} : am_tbl Ls xs 121 20 = some (o_iload 1 1) := (m_121 20).trans rfl
theorem t_121_21 {Ls : Nat} {xs : Nat → Int32} : am_tbl Ls xs 121 21 = some (o_iald 1) := (m_121 21).trans rfl
theorem t_121_22 {Ls : Nat} {xs : Nat → Int32} : am_tbl Ls xs 121 22 = some (o_istore 4 2) := (m_121 22).trans rfl
theorem t_121_24 {Ls : Nat} {xs : Nat → Int32} : am_tbl Ls xs 121 24 = some (o_aload 0 1) := (m_121 24).trans rfl
theorem t_121_25 {Ls : Nat} {xs : Nat → Int32} : am_tbl Ls xs 121 25 = some (o_get 1 2) := (m_121 25).trans rfl
theorem t_121_28 {Ls : Nat} {xs : Nat → Int32} : am_tbl Ls xs 121 28 = some (o_get 6 3) := (m_121 28).trans rfl
theorem t_121_31 {Ls : Nat} {xs : Nat → Int32} : am_tbl Ls xs 121 31 = some (o_iload 1 1) := (m_121 31).trans rfl
theorem t_121_32 {Ls : Nat} {xs : Nat → Int32} : am_tbl Ls xs 121 32 = some (o_iload 2 1) := (m_121 32).trans rfl
theorem t_121_33 {Ls : Nat} {xs : Nat → Int32} : am_tbl Ls xs 121 33 = some (o_iast 1 (fun x => x)) := (m_121 33).trans rfl
theorem t_121_34 {Ls : Nat} {xs : Nat → Int32} : am_tbl Ls xs 121 34 = some (o_aload 0 1) := (m_121 34).trans rfl
theorem t_121_35 {Ls : Nat} {xs : Nat → Int32} : am_tbl Ls xs 121 35 = some (o_get 1 0) := (m_121 35).trans rfl
theorem t_121_38 {Ls : Nat} {xs : Nat → Int32} : am_tbl Ls xs 121 38 = some (o_callv 167 0 5 3) := (m_121 38).trans rfl
theorem t_121_41 {Ls : Nat} {xs : Nat → Int32} : am_tbl Ls xs 121 41 = some (o_iload 3 1) := (m_121 41).trans rfl
theorem t_121_42 {Ls : Nat} {xs : Nat → Int32} : am_tbl Ls xs 121 42 = some (o_push (.int (-1)) 1) := (m_121 42).trans rfl
theorem t_121_43 {Ls : Nat} {xs : Nat → Int32} : am_tbl Ls xs 121 43 = some (o_icmp (fun x y => decide (x ≠ y)) 56) := (m_121 43).trans rfl
theorem t_121_46 {Ls : Nat} {xs : Nat → Int32} : am_tbl Ls xs 121 46 = some (o_aload 0 1) := (m_121 46).trans rfl
theorem t_121_47 {Ls : Nat} {xs : Nat → Int32} : am_tbl Ls xs 121 47 = some (o_get 1 0) := (m_121 47).trans rfl
theorem t_121_50 {Ls : Nat} {xs : Nat → Int32} : am_tbl Ls xs 121 50 = some (o_callv 179 0 5 3) := (m_121 50).trans rfl
theorem t_121_53 {Ls : Nat} {xs : Nat → Int32} : am_tbl Ls xs 121 53 = some (o_goto 64) := (m_121 53).trans rfl
theorem t_121_56 {Ls : Nat} {xs : Nat → Int32} : am_tbl Ls xs 121 56 = some (o_aload 0 1) := (m_121 56).trans rfl
theorem t_121_57 {Ls : Nat} {xs : Nat → Int32} : am_tbl Ls xs 121 57 = some (o_get 1 0) := (m_121 57).trans rfl
theorem t_121_60 {Ls : Nat} {xs : Nat → Int32} : am_tbl Ls xs 121 60 = some (o_iload 3 1) := (m_121 60).trans rfl
theorem t_121_61 {Ls : Nat} {xs : Nat → Int32} : am_tbl Ls xs 121 61 = some (o_callv 178 1 5 2) := (m_121 61).trans rfl
theorem t_121_64 {Ls : Nat} {xs : Nat → Int32} : am_tbl Ls xs 121 64 = some (o_nrm [0, 1, 4] (o_istore 5 2)) := (m_121 64).trans rfl
theorem t_121_66 {Ls : Nat} {xs : Nat → Int32} : am_tbl Ls xs 121 66 = some (o_aload 0 1) := (m_121 66).trans rfl
theorem t_121_67 {Ls : Nat} {xs : Nat → Int32} : am_tbl Ls xs 121 67 = some (o_get 1 2) := (m_121 67).trans rfl
theorem t_121_70 {Ls : Nat} {xs : Nat → Int32} : am_tbl Ls xs 121 70 = some (o_get 6 3) := (m_121 70).trans rfl
theorem t_121_73 {Ls : Nat} {xs : Nat → Int32} : am_tbl Ls xs 121 73 = some (o_iload 1 1) := (m_121 73).trans rfl
theorem t_121_74 {Ls : Nat} {xs : Nat → Int32} : am_tbl Ls xs 121 74 = some (o_iload 4 2) := (m_121 74).trans rfl
theorem t_121_76 {Ls : Nat} {xs : Nat → Int32} : am_tbl Ls xs 121 76 = some (o_iast 1 (fun x => x)) := (m_121 76).trans rfl
theorem t_121_77 {Ls : Nat} {xs : Nat → Int32} : am_tbl Ls xs 121 77 = some (o_aload 0 1) := (m_121 77).trans rfl
theorem t_121_78 {Ls : Nat} {xs : Nat → Int32} : am_tbl Ls xs 121 78 = some (o_get 1 0) := (m_121 78).trans rfl
theorem t_121_81 {Ls : Nat} {xs : Nat → Int32} : am_tbl Ls xs 121 81 = some (o_callv 167 0 5 3) := (m_121 81).trans rfl
theorem t_121_84 {Ls : Nat} {xs : Nat → Int32} : am_tbl Ls xs 121 84 = some (o_iload 5 2) := (m_121 84).trans rfl
theorem t_121_86 {Ls : Nat} {xs : Nat → Int32} : am_tbl Ls xs 121 86 = some (o_iret) := (m_121 86).trans rfl
theorem m_122 {Ls : Nat} {xs : Nat → Int32} (pc : Nat) : am_tbl Ls xs 122 pc = am_lk (op_X1_bestWallFor) pc := rfl
theorem t_122_0 {Ls : Nat} {xs : Nat → Int32} : am_tbl Ls xs 122 0 = some (o_push (.int (-1)) 1) := (m_122 0).trans rfl
theorem t_122_1 {Ls : Nat} {xs : Nat → Int32} : am_tbl Ls xs 122 1 = some (o_istore 3 1) := (m_122 1).trans rfl
theorem t_122_2 {Ls : Nat} {xs : Nat → Int32} : am_tbl Ls xs 122 2 = some (o_push (.int 1000000000) 2) := (m_122 2).trans rfl
theorem t_122_4 {Ls : Nat} {xs : Nat → Int32} : am_tbl Ls xs 122 4 = some (o_istore 4 2) := (m_122 4).trans rfl
theorem t_122_6 {Ls : Nat} {xs : Nat → Int32} : am_tbl Ls xs 122 6 = some (o_push (.int 0) 1) := (m_122 6).trans rfl
theorem t_122_7 {Ls : Nat} {xs : Nat → Int32} : am_tbl Ls xs 122 7 = some (o_istore 5 2) := (m_122 7).trans rfl
theorem t_122_9 {Ls : Nat} {xs : Nat → Int32} : am_tbl Ls xs 122 9 = some (o_nrm [0, 1, 2, 3, 4, 5] (o_iload 5 2)) := (m_122 9).trans rfl
theorem t_122_11 {Ls : Nat} {xs : Nat → Int32} : am_tbl Ls xs 122 11 = some (o_aload 0 1) := (m_122 11).trans rfl
theorem t_122_12 {Ls : Nat} {xs : Nat → Int32} : am_tbl Ls xs 122 12 = some (o_get 1 1) := (m_122 12).trans rfl
theorem t_122_15 {Ls : Nat} {xs : Nat → Int32} : am_tbl Ls xs 122 15 = some (o_get 2 2) := (m_122 15).trans rfl
theorem t_122_18 {Ls : Nat} {xs : Nat → Int32} : am_tbl Ls xs 122 18 = some (o_icmp (fun x y => decide (y ≤ x)) 63) := (m_122 18).trans rfl
theorem t_122_21 {Ls : Nat} {xs : Nat → Int32} : am_tbl Ls xs 122 21 = some (o_aload 0 1) := (m_122 21).trans rfl
theorem t_122_22 {Ls : Nat} {xs : Nat → Int32} : am_tbl Ls xs 122 22 = some (o_iload 5 2) := (m_122 22).trans rfl
theorem t_122_24 {Ls : Nat} {xs : Nat → Int32} : am_tbl Ls xs 122 24 = some (o_callv 119 1 1 2) := (m_122 24).trans rfl
theorem t_122_27 {Ls : Nat} {xs : Nat → Int32} : am_tbl Ls xs 122 27 = some (o_if (fun x => decide (x ≠ 0)) 33) := (m_122 27).trans rfl
theorem t_122_30 {Ls : Nat} {xs : Nat → Int32} : am_tbl Ls xs 122 30 = some (o_goto 57) := (m_122 30).trans rfl
theorem t_122_33 {Ls : Nat} {xs : Nat → Int32} : am_tbl Ls xs 122 33 = some (o_aload 0 1) := (m_122 33).trans rfl
theorem t_122_34 {Ls : Nat} {xs : Nat → Int32} : am_tbl Ls xs 122 34 = some (o_iload 5 2) := (m_122 34).trans rfl
theorem t_122_36 {Ls : Nat} {xs : Nat → Int32} : am_tbl Ls xs 122 36 = some (o_iload 1 1) := (m_122 36).trans rfl
theorem t_122_37 {Ls : Nat} {xs : Nat → Int32} : am_tbl Ls xs 122 37 = some (o_iload 2 1) := (m_122 37).trans rfl
theorem t_122_38 {Ls : Nat} {xs : Nat → Int32} : am_tbl Ls xs 122 38 = some (o_callv 121 3 1 6) := (m_122 38).trans rfl
theorem t_122_41 {Ls : Nat} {xs : Nat → Int32} : am_tbl Ls xs 122 41 = some (o_istore 6 2) := (m_122 41).trans rfl
theorem t_122_43 {Ls : Nat} {xs : Nat → Int32} : am_tbl Ls xs 122 43 = some (o_iload 6 2) := (m_122 43).trans rfl
theorem t_122_45 {Ls : Nat} {xs : Nat → Int32} : am_tbl Ls xs 122 45 = some (o_iload 4 2) := (m_122 45).trans rfl
theorem t_122_47 {Ls : Nat} {xs : Nat → Int32} : am_tbl Ls xs 122 47 = some (o_icmp (fun x y => decide (y ≤ x)) 57) := (m_122 47).trans rfl
theorem t_122_50 {Ls : Nat} {xs : Nat → Int32} : am_tbl Ls xs 122 50 = some (o_iload 6 2) := (m_122 50).trans rfl
theorem t_122_52 {Ls : Nat} {xs : Nat → Int32} : am_tbl Ls xs 122 52 = some (o_istore 4 2) := (m_122 52).trans rfl
theorem t_122_54 {Ls : Nat} {xs : Nat → Int32} : am_tbl Ls xs 122 54 = some (o_iload 5 2) := (m_122 54).trans rfl
theorem t_122_56 {Ls : Nat} {xs : Nat → Int32} : am_tbl Ls xs 122 56 = some (o_istore 3 1) := (m_122 56).trans rfl
theorem t_122_57 {Ls : Nat} {xs : Nat → Int32} : am_tbl Ls xs 122 57 = some (o_nrm [0, 1, 2, 3, 4, 5] (o_iinc 5 1)) := (m_122 57).trans rfl
theorem t_122_60 {Ls : Nat} {xs : Nat → Int32} : am_tbl Ls xs 122 60 = some (o_goto 9) := (m_122 60).trans rfl
theorem t_122_63 {Ls : Nat} {xs : Nat → Int32} : am_tbl Ls xs 122 63 = some (o_iload 3 1) := (m_122 63).trans rfl
theorem t_122_64 {Ls : Nat} {xs : Nat → Int32} : am_tbl Ls xs 122 64 = some (o_iret) := (m_122 64).trans rfl
theorem m_123 {Ls : Nat} {xs : Nat → Int32} (pc : Nat) : am_tbl Ls xs 123 pc = am_lk (op_X1_mayHaveStood) pc := rfl
theorem t_123_0 {Ls : Nat} {xs : Nat → Int32} : am_tbl Ls xs 123 0 = some (o_aload 0 1) := (m_123 0).trans rfl
theorem t_123_1 {Ls : Nat} {xs : Nat → Int32} : am_tbl Ls xs 123 1 = some (o_get 1 1) := (m_123 1).trans rfl
theorem t_123_4 {Ls : Nat} {xs : Nat → Int32} : am_tbl Ls xs 123 4 = some (o_iload 2 1) := (m_123 4).trans rfl
theorem t_123_5 {Ls : Nat} {xs : Nat → Int32} : am_tbl Ls xs 123 5 = some (o_callv 133 1 2 2) := (m_123 5).trans rfl
theorem t_123_8 {Ls : Nat} {xs : Nat → Int32} : am_tbl Ls xs 123 8 = some (o_if (fun x => decide (x = 0)) 23) := (m_123 8).trans rfl
theorem t_123_11 {Ls : Nat} {xs : Nat → Int32} : am_tbl Ls xs 123 11 = some (o_aload 0 1) := (m_123 11).trans rfl
theorem t_123_12 {Ls : Nat} {xs : Nat → Int32} : am_tbl Ls xs 123 12 = some (o_get 1 2) := (m_123 12).trans rfl
theorem t_123_15 {Ls : Nat} {xs : Nat → Int32} : am_tbl Ls xs 123 15 = some (o_get 6 3) := (m_123 15).trans rfl
theorem t_123_18 {Ls : Nat} {xs : Nat → Int32} : am_tbl Ls xs 123 18 = some (o_iload 2 1) := (m_123 18).trans rfl
theorem t_123_19 {Ls : Nat} {xs : Nat → Int32} : am_tbl Ls xs 123 19 = some (o_iald 1) := (m_123 19).trans rfl
theorem t_123_20 {Ls : Nat} {xs : Nat → Int32} : am_tbl Ls xs 123 20 = some (o_if (fun x => decide (x ≤ 0)) 25) := (m_123 20).trans rfl
theorem t_123_23 {Ls : Nat} {xs : Nat → Int32} : am_tbl Ls xs 123 23 = some (o_nrm [] (o_push (.int 0) 1)) := (m_123 23).trans rfl
theorem t_123_24 {Ls : Nat} {xs : Nat → Int32} : am_tbl Ls xs 123 24 = some (o_zret) := (m_123 24).trans rfl
theorem t_123_25 {Ls : Nat} {xs : Nat → Int32} : am_tbl Ls xs 123 25 = some (o_push (.int 0) 1) := (m_123 25).trans rfl
theorem t_123_26 {Ls : Nat} {xs : Nat → Int32} : am_tbl Ls xs 123 26 = some (o_istore 4 2) := (m_123 26).trans rfl
theorem t_123_28 {Ls : Nat} {xs : Nat → Int32} : am_tbl Ls xs 123 28 = some (o_nrm [0, 1, 2, 3, 4] (o_iload 4 2)) := (m_123 28).trans rfl
theorem t_123_30 {Ls : Nat} {xs : Nat → Int32} : am_tbl Ls xs 123 30 = some (o_aload 3 1) := (m_123 30).trans rfl
theorem t_123_31 {Ls : Nat} {xs : Nat → Int32} : am_tbl Ls xs 123 31 = some (o_get 4 3) := (m_123 31).trans rfl
theorem t_123_34 {Ls : Nat} {xs : Nat → Int32} : am_tbl Ls xs 123 34 = some (o_icmp (fun x y => decide (y ≤ x)) 69) := (m_123 34).trans rfl
theorem t_123_37 {Ls : Nat} {xs : Nat → Int32} : am_tbl Ls xs 123 37 = some (o_aload 0 1) := (m_123 37).trans rfl
theorem t_123_38 {Ls : Nat} {xs : Nat → Int32} : am_tbl Ls xs 123 38 = some (o_get 1 0) := (m_123 38).trans rfl
theorem t_123_41 {Ls : Nat} {xs : Nat → Int32} : am_tbl Ls xs 123 41 = some (o_iload 1 1) := (m_123 41).trans rfl
theorem t_123_42 {Ls : Nat} {xs : Nat → Int32} : am_tbl Ls xs 123 42 = some (o_iload 2 1) := (m_123 42).trans rfl
theorem t_123_43 {Ls : Nat} {xs : Nat → Int32} : am_tbl Ls xs 123 43 = some (o_aload 3 1) := (m_123 43).trans rfl
theorem t_123_44 {Ls : Nat} {xs : Nat → Int32} : am_tbl Ls xs 123 44 = some (o_iload 4 2) := (m_123 44).trans rfl
theorem t_123_46 {Ls : Nat} {xs : Nat → Int32} : am_tbl Ls xs 123 46 = some (o_callv 164 1 4 2) := (m_123 46).trans rfl
theorem t_123_49 {Ls : Nat} {xs : Nat → Int32} : am_tbl Ls xs 123 49 = some (o_callv 176 3 5 4) := (m_123 49).trans rfl
theorem t_123_52 {Ls : Nat} {xs : Nat → Int32} : am_tbl Ls xs 123 52 = some (o_aload 3 1) := (m_123 52).trans rfl
theorem t_123_53 {Ls : Nat} {xs : Nat → Int32} : am_tbl Ls xs 123 53 = some (o_iload 4 2) := (m_123 53).trans rfl
theorem t_123_55 {Ls : Nat} {xs : Nat → Int32} : am_tbl Ls xs 123 55 = some (o_callv 165 1 4 2) := (m_123 55).trans rfl
theorem t_123_58 {Ls : Nat} {xs : Nat → Int32} : am_tbl Ls xs 123 58 = some (o_icmp (fun x y => decide (x = y)) 63) := (m_123 58).trans rfl
theorem t_123_61 {Ls : Nat} {xs : Nat → Int32} : am_tbl Ls xs 123 61 = some (o_push (.int 0) 1) := (m_123 61).trans rfl
theorem t_123_62 {Ls : Nat} {xs : Nat → Int32} : am_tbl Ls xs 123 62 = some (o_zret) := (m_123 62).trans rfl
theorem t_123_63 {Ls : Nat} {xs : Nat → Int32} : am_tbl Ls xs 123 63 = some (o_iinc 4 1) := (m_123 63).trans rfl
theorem t_123_66 {Ls : Nat} {xs : Nat → Int32} : am_tbl Ls xs 123 66 = some (o_goto 28) := (m_123 66).trans rfl
theorem t_123_69 {Ls : Nat} {xs : Nat → Int32} : am_tbl Ls xs 123 69 = some (o_push (.int 1) 1) := (m_123 69).trans rfl
theorem t_123_70 {Ls : Nat} {xs : Nat → Int32} : am_tbl Ls xs 123 70 = some (o_zret) := (m_123 70).trans rfl
theorem m_124 {Ls : Nat} {xs : Nat → Int32} (pc : Nat) : am_tbl Ls xs 124 pc = am_lk (op_X1_countOfStood) pc := rfl
theorem t_124_0 {Ls : Nat} {xs : Nat → Int32} : am_tbl Ls xs 124 0 = some (o_push (.int 0) 1) := (m_124 0).trans rfl
theorem t_124_1 {Ls : Nat} {xs : Nat → Int32} : am_tbl Ls xs 124 1 = some (o_istore 3 1) := (m_124 1).trans rfl
theorem t_124_2 {Ls : Nat} {xs : Nat → Int32} : am_tbl Ls xs 124 2 = some (o_push (.int 0) 1) := (m_124 2).trans rfl
theorem t_124_3 {Ls : Nat} {xs : Nat → Int32} : am_tbl Ls xs 124 3 = some (o_istore 4 2) := (m_124 3).trans rfl
theorem t_124_5 {Ls : Nat} {xs : Nat → Int32} : am_tbl Ls xs 124 5 = some (o_nrm [0, 1, 2, 3, 4] (o_iload 4 2)) := (m_124 5).trans rfl
theorem t_124_7 {Ls : Nat} {xs : Nat → Int32} : am_tbl Ls xs 124 7 = some (o_aload 0 1) := (m_124 7).trans rfl
theorem t_124_8 {Ls : Nat} {xs : Nat → Int32} : am_tbl Ls xs 124 8 = some (o_get 1 1) := (m_124 8).trans rfl
theorem t_124_11 {Ls : Nat} {xs : Nat → Int32} : am_tbl Ls xs 124 11 = some (o_get 2 2) := (m_124 11).trans rfl
theorem t_124_14 {Ls : Nat} {xs : Nat → Int32} : am_tbl Ls xs 124 14 = some (o_icmp (fun x y => decide (y ≤ x)) 37) := (m_124 14).trans rfl
theorem t_124_17 {Ls : Nat} {xs : Nat → Int32} : am_tbl Ls xs 124 17 = some (o_aload 0 1) := (m_124 17).trans rfl
theorem t_124_18 {Ls : Nat} {xs : Nat → Int32} : am_tbl Ls xs 124 18 = some (o_iload 1 1) := (m_124 18).trans rfl
theorem t_124_19 {Ls : Nat} {xs : Nat → Int32} : am_tbl Ls xs 124 19 = some (o_iload 4 2) := (m_124 19).trans rfl
theorem t_124_21 {Ls : Nat} {xs : Nat → Int32} : am_tbl Ls xs 124 21 = some (o_aload 2 1) := (m_124 21).trans rfl
theorem t_124_22 {Ls : Nat} {xs : Nat → Int32} : am_tbl Ls xs 124 22 = some (o_callv 123 3 1 5) := (m_124 22).trans rfl
theorem t_124_25 {Ls : Nat} {xs : Nat → Int32} : am_tbl Ls xs 124 25 = some (o_if (fun x => decide (x = 0)) 31) := (m_124 25).trans rfl
theorem t_124_28 {Ls : Nat} {xs : Nat → Int32} : am_tbl Ls xs 124 28 = some (o_iinc 3 1) := (m_124 28).trans rfl
theorem t_124_31 {Ls : Nat} {xs : Nat → Int32} : am_tbl Ls xs 124 31 = some (o_nrm [0, 1, 2, 3, 4] (o_iinc 4 1)) := (m_124 31).trans rfl
theorem t_124_34 {Ls : Nat} {xs : Nat → Int32} : am_tbl Ls xs 124 34 = some (o_goto 5) := (m_124 34).trans rfl
theorem t_124_37 {Ls : Nat} {xs : Nat → Int32} : am_tbl Ls xs 124 37 = some (o_iload 3 1) := (m_124 37).trans rfl
theorem t_124_38 {Ls : Nat} {xs : Nat → Int32} : am_tbl Ls xs 124 38 = some (o_iret) := (m_124 38).trans rfl
theorem m_125 {Ls : Nat} {xs : Nat → Int32} (pc : Nat) : am_tbl Ls xs 125 pc = am_lk (op_X1_stoodAt) pc := rfl
theorem t_125_0 {Ls : Nat} {xs : Nat → Int32} : am_tbl Ls xs 125 0 = some (o_push (.int 0) 1) := (m_125 0).trans rfl
theorem t_125_1 {Ls : Nat} {xs : Nat → Int32} : am_tbl Ls xs 125 1 = some (o_istore 4 2) := (m_125 1).trans rfl
theorem t_125_3 {Ls : Nat} {xs : Nat → Int32} : am_tbl Ls xs 125 3 = some (o_push (.int 0) 1) := (m_125 3).trans rfl
theorem t_125_4 {Ls : Nat} {xs : Nat → Int32} : am_tbl Ls xs 125 4 = some (o_istore 5 2) := (m_125 4).trans rfl
theorem t_125_6 {Ls : Nat} {xs : Nat → Int32} : am_tbl Ls xs 125 6 = some (o_nrm [0, 1, 2, 3, 4, 5] (o_iload 5 2)) := (m_125 6).trans rfl
theorem t_125_8 {Ls : Nat} {xs : Nat → Int32} : am_tbl Ls xs 125 8 = some (o_aload 0 1) := (m_125 8).trans rfl
theorem t_125_9 {Ls : Nat} {xs : Nat → Int32} : am_tbl Ls xs 125 9 = some (o_get 1 1) := (m_125 9).trans rfl
theorem t_125_12 {Ls : Nat} {xs : Nat → Int32} : am_tbl Ls xs 125 12 = some (o_get 2 2) := (m_125 12).trans rfl
theorem t_125_15 {Ls : Nat} {xs : Nat → Int32} : am_tbl Ls xs 125 15 = some (o_icmp (fun x y => decide (y ≤ x)) 47) := (m_125 15).trans rfl
theorem t_125_18 {Ls : Nat} {xs : Nat → Int32} : am_tbl Ls xs 125 18 = some (o_aload 0 1) := (m_125 18).trans rfl
theorem t_125_19 {Ls : Nat} {xs : Nat → Int32} : am_tbl Ls xs 125 19 = some (o_iload 1 1) := (m_125 19).trans rfl
theorem t_125_20 {Ls : Nat} {xs : Nat → Int32} : am_tbl Ls xs 125 20 = some (o_iload 5 2) := (m_125 20).trans rfl
theorem t_125_22 {Ls : Nat} {xs : Nat → Int32} : am_tbl Ls xs 125 22 = some (o_aload 2 1) := (m_125 22).trans rfl
theorem t_125_23 {Ls : Nat} {xs : Nat → Int32} : am_tbl Ls xs 125 23 = some (o_callv 123 3 1 5) := (m_125 23).trans rfl
theorem t_125_26 {Ls : Nat} {xs : Nat → Int32} : am_tbl Ls xs 125 26 = some (o_if (fun x => decide (x = 0)) 41) := (m_125 26).trans rfl
theorem t_125_29 {Ls : Nat} {xs : Nat → Int32} : am_tbl Ls xs 125 29 = some (o_iload 4 2) := (m_125 29).trans rfl
theorem t_125_31 {Ls : Nat} {xs : Nat → Int32} : am_tbl Ls xs 125 31 = some (o_iload 3 1) := (m_125 31).trans rfl
theorem t_125_32 {Ls : Nat} {xs : Nat → Int32} : am_tbl Ls xs 125 32 = some (o_icmp (fun x y => decide (x ≠ y)) 38) := (m_125 32).trans rfl
theorem t_125_35 {Ls : Nat} {xs : Nat → Int32} : am_tbl Ls xs 125 35 = some (o_iload 5 2) := (m_125 35).trans rfl
theorem t_125_37 {Ls : Nat} {xs : Nat → Int32} : am_tbl Ls xs 125 37 = some (o_iret) := (m_125 37).trans rfl
theorem t_125_38 {Ls : Nat} {xs : Nat → Int32} : am_tbl Ls xs 125 38 = some (o_iinc 4 1) := (m_125 38).trans rfl
theorem t_125_41 {Ls : Nat} {xs : Nat → Int32} : am_tbl Ls xs 125 41 = some (o_nrm [0, 1, 2, 3, 4, 5] (o_iinc 5 1)) := (m_125 41).trans rfl
theorem t_125_44 {Ls : Nat} {xs : Nat → Int32} : am_tbl Ls xs 125 44 = some (o_goto 6) := (m_125 44).trans rfl
theorem t_125_47 {Ls : Nat} {xs : Nat → Int32} : am_tbl Ls xs 125 47 = some (o_push (.int (-1)) 1) := (m_125 47).trans rfl
theorem t_125_48 {Ls : Nat} {xs : Nat → Int32} : am_tbl Ls xs 125 48 = some (o_iret) := (m_125 48).trans rfl
