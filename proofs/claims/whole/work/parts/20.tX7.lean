/-! THE TABLES BY PLACE -/
theorem m_188 {Ls : Nat} {xs : Nat → Int32} (pc : Nat) : am_tbl Ls xs 188 pc = am_lk (op_X7_leastMean) pc := rfl
theorem t_188_0 {Ls : Nat} {xs : Nat → Int32} : am_tbl Ls xs 188 0 = some (o_aload 0 1) := (m_188 0).trans rfl
theorem t_188_1 {Ls : Nat} {xs : Nat → Int32} : am_tbl Ls xs 188 1 = some (o_get 7 1) := (m_188 1).trans rfl
theorem t_188_4 {Ls : Nat} {xs : Nat → Int32} : am_tbl Ls xs 188 4 = some (o_iload 1 1) := (m_188 4).trans rfl
theorem t_188_5 {Ls : Nat} {xs : Nat → Int32} : am_tbl Ls xs 188 5 = some (o_callv 135 1 2 2) := (m_188 5).trans rfl
theorem t_188_8 {Ls : Nat} {xs : Nat → Int32} : am_tbl Ls xs 188 8 = some (o_if (fun x => decide (x = 0)) 21) := (m_188 8).trans rfl
theorem t_188_11 {Ls : Nat} {xs : Nat → Int32} : am_tbl Ls xs 188 11 = some (o_aload 0 1) := (m_188 11).trans rfl
theorem t_188_12 {Ls : Nat} {xs : Nat → Int32} : am_tbl Ls xs 188 12 = some (o_get 7 1) := (m_188 12).trans rfl
theorem t_188_15 {Ls : Nat} {xs : Nat → Int32} : am_tbl Ls xs 188 15 = some (o_get 2 3) := (m_188 15).trans rfl
theorem t_188_18 {Ls : Nat} {xs : Nat → Int32} : am_tbl Ls xs 188 18 = some (o_if (fun x => decide (x ≠ 0)) 23) := (m_188 18).trans rfl
theorem t_188_21 {Ls : Nat} {xs : Nat → Int32} : am_tbl Ls xs 188 21 = some (o_nrm [] (o_push (.int 0) 1)) := (m_188 21).trans rfl
theorem t_188_22 {Ls : Nat} {xs : Nat → Int32} : am_tbl Ls xs 188 22 = some (o_iret) := (m_188 22).trans rfl
theorem t_188_23 {Ls : Nat} {xs : Nat → Int32} : am_tbl Ls xs 188 23 = some (o_aload 0 1) := (m_188 23).trans rfl
theorem t_188_24 {Ls : Nat} {xs : Nat → Int32} : am_tbl Ls xs 188 24 = some (o_get 7 1) := (m_188 24).trans rfl
theorem t_188_27 {Ls : Nat} {xs : Nat → Int32} : am_tbl Ls xs 188 27 = some (o_get 2 3) := (m_188 27).trans rfl
theorem t_188_30 {Ls : Nat} {xs : Nat → Int32} : am_tbl Ls xs 188 30 = some (o_push (.int 1) 1) := (m_188 30).trans rfl
theorem t_188_31 {Ls : Nat} {xs : Nat → Int32} : am_tbl Ls xs 188 31 = some (o_ibin (fun x y => x - y)) := (m_188 31).trans rfl
theorem t_188_32 {Ls : Nat} {xs : Nat → Int32} : am_tbl Ls xs 188 32 = some (o_istore 2 1) := (m_188 32).trans rfl
theorem t_188_33 {Ls : Nat} {xs : Nat → Int32} : am_tbl Ls xs 188 33 = some (o_nrm [0, 1, 2] (o_iload 2 1)) := (m_188 33).trans rfl
theorem t_188_34 {Ls : Nat} {xs : Nat → Int32} : am_tbl Ls xs 188 34 = some (o_if (fun x => decide (x < 0)) 77) := (m_188 34).trans rfl
theorem t_188_37 {Ls : Nat} {xs : Nat → Int32} : am_tbl Ls xs 188 37 = some (o_push (.int 0) 1) := (m_188 37).trans rfl
theorem t_188_38 {Ls : Nat} {xs : Nat → Int32} : am_tbl Ls xs 188 38 = some (o_istore 3 1) := (m_188 38).trans rfl
theorem t_188_39 {Ls : Nat} {xs : Nat → Int32} : am_tbl Ls xs 188 39 = some (o_nrm [0, 1, 2, 3] (o_iload 3 1)) := (m_188 39).trans rfl
theorem t_188_40 {Ls : Nat} {xs : Nat → Int32} : am_tbl Ls xs 188 40 = some (o_aload 0 1) := (m_188 40).trans rfl
theorem t_188_41 {Ls : Nat} {xs : Nat → Int32} : am_tbl Ls xs 188 41 = some (o_get 7 1) := (m_188 41).trans rfl
theorem t_188_44 {Ls : Nat} {xs : Nat → Int32} : am_tbl Ls xs 188 44 = some (o_get 2 2) := (m_188 44).trans rfl
theorem t_188_47 {Ls : Nat} {xs : Nat → Int32} : am_tbl Ls xs 188 47 = some (o_icmp (fun x y => decide (y ≤ x)) 71) := (m_188 47).trans rfl
theorem t_188_50 {Ls : Nat} {xs : Nat → Int32} : am_tbl Ls xs 188 50 = some (o_aload 0 1) := (m_188 50).trans rfl
theorem t_188_51 {Ls : Nat} {xs : Nat → Int32} : am_tbl Ls xs 188 51 = some (o_get 7 4) := (m_188 51).trans rfl
theorem t_188_54 {Ls : Nat} {xs : Nat → Int32} : am_tbl Ls xs 188 54 = some (o_iload 2 1) := (m_188 54).trans rfl
theorem t_188_55 {Ls : Nat} {xs : Nat → Int32} : am_tbl Ls xs 188 55 = some (o_aald) := (m_188 55).trans rfl
theorem t_188_56 {Ls : Nat} {xs : Nat → Int32} : am_tbl Ls xs 188 56 = some (o_iload 3 1) := (m_188 56).trans rfl
theorem t_188_57 {Ls : Nat} {xs : Nat → Int32} : am_tbl Ls xs 188 57 = some (o_aload 0 1) := (m_188 57).trans rfl
theorem t_188_58 {Ls : Nat} {xs : Nat → Int32} : am_tbl Ls xs 188 58 = some (o_iload 1 1) := (m_188 58).trans rfl
theorem t_188_59 {Ls : Nat} {xs : Nat → Int32} : am_tbl Ls xs 188 59 = some (o_iload 3 1) := (m_188 59).trans rfl
theorem t_188_60 {Ls : Nat} {xs : Nat → Int32} : am_tbl Ls xs 188 60 = some (o_iload 2 1) := (m_188 60).trans rfl
theorem t_188_61 {Ls : Nat} {xs : Nat → Int32} : am_tbl Ls xs 188 61 = some (o_callv 189 3 7 6) := (m_188 61).trans rfl
theorem t_188_64 {Ls : Nat} {xs : Nat → Int32} : am_tbl Ls xs 188 64 = some (o_iast 1 (fun x => x)) := (m_188 64).trans rfl
theorem t_188_65 {Ls : Nat} {xs : Nat → Int32} : am_tbl Ls xs 188 65 = some (o_iinc 3 1) := (m_188 65).trans rfl
theorem t_188_68 {Ls : Nat} {xs : Nat → Int32} : am_tbl Ls xs 188 68 = some (o_goto 39) := (m_188 68).trans rfl
theorem t_188_71 {Ls : Nat} {xs : Nat → Int32} : am_tbl Ls xs 188 71 = some (o_iinc 2 (-1)) := (m_188 71).trans rfl
theorem t_188_74 {Ls : Nat} {xs : Nat → Int32} : am_tbl Ls xs 188 74 = some (o_goto 33) := (m_188 74).trans rfl
theorem t_188_77 {Ls : Nat} {xs : Nat → Int32} : am_tbl Ls xs 188 77 = some (o_aload 0 1) := (m_188 77).trans rfl
theorem t_188_78 {Ls : Nat} {xs : Nat → Int32} : am_tbl Ls xs 188 78 = some (o_get 7 2) := (m_188 78).trans rfl
theorem t_188_81 {Ls : Nat} {xs : Nat → Int32} : am_tbl Ls xs 188 81 = some (o_get 6 0) := (m_188 81).trans rfl
theorem t_188_84 {Ls : Nat} {xs : Nat → Int32} : am_tbl Ls xs 188 84 = some (o_iload 1 1) := (m_188 84).trans rfl
theorem t_188_85 {Ls : Nat} {xs : Nat → Int32} : am_tbl Ls xs 188 85 = some (o_iald 1) := (m_188 85).trans rfl
theorem t_188_86 {Ls : Nat} {xs : Nat → Int32} : am_tbl Ls xs 188 86 = some (o_istore 2 1) := (m_188 86).trans rfl
theorem t_188_87 {Ls : Nat} {xs : Nat → Int32} : am_tbl Ls xs 188 87 = some (o_aload 0 1) := (m_188 87).trans rfl
theorem t_188_88 {Ls : Nat} {xs : Nat → Int32} : am_tbl Ls xs 188 88 = some (o_get 7 1) := (m_188 88).trans rfl
theorem t_188_91 {Ls : Nat} {xs : Nat → Int32} : am_tbl Ls xs 188 91 = some (o_iload 2 1) := (m_188 91).trans rfl
theorem t_188_92 {Ls : Nat} {xs : Nat → Int32} : am_tbl Ls xs 188 92 = some (o_callv 133 1 2 2) := (m_188 92).trans rfl
theorem t_188_95 {Ls : Nat} {xs : Nat → Int32} : am_tbl Ls xs 188 95 = some (o_if (fun x => decide (x = 0)) 122) := (m_188 95).trans rfl
theorem t_188_98 {Ls : Nat} {xs : Nat → Int32} : am_tbl Ls xs 188 98 = some (o_aload 0 1) := (m_188 98).trans rfl
theorem t_188_99 {Ls : Nat} {xs : Nat → Int32} : am_tbl Ls xs 188 99 = some (o_get 7 4) := (m_188 99).trans rfl
theorem t_188_102 {Ls : Nat} {xs : Nat → Int32} : am_tbl Ls xs 188 102 = some (o_push (.int 0) 1) := (m_188 102).trans rfl
theorem t_188_103 {Ls : Nat} {xs : Nat → Int32} : am_tbl Ls xs 188 103 = some (o_aald) := (m_188 103).trans rfl
theorem t_188_104 {Ls : Nat} {xs : Nat → Int32} : am_tbl Ls xs 188 104 = some (o_iload 2 1) := (m_188 104).trans rfl
theorem t_188_105 {Ls : Nat} {xs : Nat → Int32} : am_tbl Ls xs 188 105 = some (o_iald 1) := (m_188 105).trans rfl
theorem t_188_106 {Ls : Nat} {xs : Nat → Int32} : am_tbl Ls xs 188 106 = some (o_push (.int 1000000000) 2) := (m_188 106).trans rfl
theorem t_188_108 {Ls : Nat} {xs : Nat → Int32} : am_tbl Ls xs 188 108 = some (o_icmp (fun x y => decide (y ≤ x)) 122) := (m_188 108).trans rfl
theorem t_188_111 {Ls : Nat} {xs : Nat → Int32} : am_tbl Ls xs 188 111 = some (o_aload 0 1) := (m_188 111).trans rfl
set_option maxRecDepth 20000 in
theorem t_188_112 {Ls : Nat} {xs : Nat → Int32} : am_tbl Ls xs 188 112 = some (o_get 7 4) := (m_188 112).trans rfl
set_option maxRecDepth 20000 in
theorem t_188_115 {Ls : Nat} {xs : Nat → Int32} : am_tbl Ls xs 188 115 = some (o_push (.int 0) 1) := (m_188 115).trans rfl
set_option maxRecDepth 20000 in
theorem t_188_116 {Ls : Nat} {xs : Nat → Int32} : am_tbl Ls xs 188 116 = some (o_aald) := (m_188 116).trans rfl
set_option maxRecDepth 20000 in
theorem t_188_117 {Ls : Nat} {xs : Nat → Int32} : am_tbl Ls xs 188 117 = some (o_iload 2 1) := (m_188 117).trans rfl
set_option maxRecDepth 20000 in
theorem t_188_118 {Ls : Nat} {xs : Nat → Int32} : am_tbl Ls xs 188 118 = some (o_iald 1) := (m_188 118).trans rfl
set_option maxRecDepth 20000 in
theorem t_188_119 {Ls : Nat} {xs : Nat → Int32} : am_tbl Ls xs 188 119 = some (o_goto 123) := (m_188 119).trans rfl
set_option maxRecDepth 20000 in
theorem t_188_122 {Ls : Nat} {xs : Nat → Int32} : am_tbl Ls xs 188 122 = some (o_nrm [] (o_push (.int (-1)) 1)) := (m_188 122).trans rfl
set_option maxRecDepth 20000 in
theorem t_188_123 {Ls : Nat} {xs : Nat → Int32} : am_tbl Ls xs 188 123 = some (o_nrm [] (o_iret)) := (m_188 123).trans rfl
theorem m_189 {Ls : Nat} {xs : Nat → Int32} (pc : Nat) : am_tbl Ls xs 189 pc = am_lk (op_X7_leastFrom) pc := rfl
theorem t_189_0 {Ls : Nat} {xs : Nat → Int32} : am_tbl Ls xs 189 0 = some (o_aload 0 1) := (m_189 0).trans rfl
theorem t_189_1 {Ls : Nat} {xs : Nat → Int32} : am_tbl Ls xs 189 1 = some (o_get 7 1) := (m_189 1).trans rfl
theorem t_189_4 {Ls : Nat} {xs : Nat → Int32} : am_tbl Ls xs 189 4 = some (o_iload 3 1) := (m_189 4).trans rfl
theorem t_189_5 {Ls : Nat} {xs : Nat → Int32} : am_tbl Ls xs 189 5 = some (o_callv 134 1 2 2) := (m_189 5).trans rfl
theorem t_189_8 {Ls : Nat} {xs : Nat → Int32} : am_tbl Ls xs 189 8 = some (o_if (fun x => decide (x = 0)) 21) := (m_189 8).trans rfl
theorem t_189_11 {Ls : Nat} {xs : Nat → Int32} : am_tbl Ls xs 189 11 = some (o_aload 0 1) := (m_189 11).trans rfl
theorem t_189_12 {Ls : Nat} {xs : Nat → Int32} : am_tbl Ls xs 189 12 = some (o_iload 1 1) := (m_189 12).trans rfl
theorem t_189_13 {Ls : Nat} {xs : Nat → Int32} : am_tbl Ls xs 189 13 = some (o_iload 2 1) := (m_189 13).trans rfl
theorem t_189_14 {Ls : Nat} {xs : Nat → Int32} : am_tbl Ls xs 189 14 = some (o_iload 3 1) := (m_189 14).trans rfl
theorem t_189_15 {Ls : Nat} {xs : Nat → Int32} : am_tbl Ls xs 189 15 = some (o_callv 190 3 7 5) := (m_189 15).trans rfl
theorem t_189_18 {Ls : Nat} {xs : Nat → Int32} : am_tbl Ls xs 189 18 = some (o_if (fun x => decide (x ≠ 0)) 24) := (m_189 18).trans rfl
theorem t_189_21 {Ls : Nat} {xs : Nat → Int32} : am_tbl Ls xs 189 21 = some (o_nrm [] (o_push (.int 1000000000) 2)) := (m_189 21).trans rfl
theorem t_189_23 {Ls : Nat} {xs : Nat → Int32} : am_tbl Ls xs 189 23 = some (o_iret) := (m_189 23).trans rfl
theorem t_189_24 {Ls : Nat} {xs : Nat → Int32} : am_tbl Ls xs 189 24 = some (o_push (.int 0) 1) := (m_189 24).trans rfl
theorem t_189_25 {Ls : Nat} {xs : Nat → Int32} : am_tbl Ls xs 189 25 = some (o_istore 4 2) := (m_189 25).trans rfl
theorem t_189_27 {Ls : Nat} {xs : Nat → Int32} : am_tbl Ls xs 189 27 = some (o_iload 3 1) := (m_189 27).trans rfl
theorem t_189_28 {Ls : Nat} {xs : Nat → Int32} : am_tbl Ls xs 189 28 = some (o_push (.int 1) 1) := (m_189 28).trans rfl
theorem t_189_29 {Ls : Nat} {xs : Nat → Int32} : am_tbl Ls xs 189 29 = some (o_ibin (fun x y => x + y)) := (m_189 29).trans rfl
theorem t_189_30 {Ls : Nat} {xs : Nat → Int32} : am_tbl Ls xs 189 30 = some (o_aload 0 1) := (m_189 30).trans rfl
theorem t_189_31 {Ls : Nat} {xs : Nat → Int32} : am_tbl Ls xs 189 31 = some (o_get 7 1) := (m_189 31).trans rfl
theorem t_189_34 {Ls : Nat} {xs : Nat → Int32} : am_tbl Ls xs 189 34 = some (o_get 2 3) := (m_189 34).trans rfl
theorem t_189_37 {Ls : Nat} {xs : Nat → Int32} : am_tbl Ls xs 189 37 = some (o_icmp (fun x y => decide (y ≤ x)) 80) := (m_189 37).trans rfl
theorem t_189_40 {Ls : Nat} {xs : Nat → Int32} : am_tbl Ls xs 189 40 = some (o_aload 0 1) := (m_189 40).trans rfl
theorem t_189_41 {Ls : Nat} {xs : Nat → Int32} : am_tbl Ls xs 189 41 = some (o_iload 2 1) := (m_189 41).trans rfl
theorem t_189_42 {Ls : Nat} {xs : Nat → Int32} : am_tbl Ls xs 189 42 = some (o_iload 3 1) := (m_189 42).trans rfl
theorem t_189_43 {Ls : Nat} {xs : Nat → Int32} : am_tbl Ls xs 189 43 = some (o_push (.int 1) 1) := (m_189 43).trans rfl
theorem t_189_44 {Ls : Nat} {xs : Nat → Int32} : am_tbl Ls xs 189 44 = some (o_ibin (fun x y => x + y)) := (m_189 44).trans rfl
theorem t_189_45 {Ls : Nat} {xs : Nat → Int32} : am_tbl Ls xs 189 45 = some (o_callv 191 2 7 8) := (m_189 45).trans rfl
theorem t_189_48 {Ls : Nat} {xs : Nat → Int32} : am_tbl Ls xs 189 48 = some (o_istore 5 2) := (m_189 48).trans rfl
theorem t_189_50 {Ls : Nat} {xs : Nat → Int32} : am_tbl Ls xs 189 50 = some (o_aload 0 1) := (m_189 50).trans rfl
theorem t_189_51 {Ls : Nat} {xs : Nat → Int32} : am_tbl Ls xs 189 51 = some (o_get 7 1) := (m_189 51).trans rfl
theorem t_189_54 {Ls : Nat} {xs : Nat → Int32} : am_tbl Ls xs 189 54 = some (o_iload 5 2) := (m_189 54).trans rfl
theorem t_189_56 {Ls : Nat} {xs : Nat → Int32} : am_tbl Ls xs 189 56 = some (o_callv 133 1 2 2) := (m_189 56).trans rfl
theorem t_189_59 {Ls : Nat} {xs : Nat → Int32} : am_tbl Ls xs 189 59 = some (o_if (fun x => decide (x = 0)) 76) := (m_189 59).trans rfl
theorem t_189_62 {Ls : Nat} {xs : Nat → Int32} : am_tbl Ls xs 189 62 = some (o_aload 0 1) := (m_189 62).trans rfl
theorem t_189_63 {Ls : Nat} {xs : Nat → Int32} : am_tbl Ls xs 189 63 = some (o_get 7 4) := (m_189 63).trans rfl
theorem t_189_66 {Ls : Nat} {xs : Nat → Int32} : am_tbl Ls xs 189 66 = some (o_iload 3 1) := (m_189 66).trans rfl
theorem t_189_67 {Ls : Nat} {xs : Nat → Int32} : am_tbl Ls xs 189 67 = some (o_push (.int 1) 1) := (m_189 67).trans rfl
theorem t_189_68 {Ls : Nat} {xs : Nat → Int32} : am_tbl Ls xs 189 68 = some (o_ibin (fun x y => x + y)) := (m_189 68).trans rfl
theorem t_189_69 {Ls : Nat} {xs : Nat → Int32} : am_tbl Ls xs 189 69 = some (o_aald) := (m_189 69).trans rfl
theorem t_189_70 {Ls : Nat} {xs : Nat → Int32} : am_tbl Ls xs 189 70 = some (o_iload 5 2) := (m_189 70).trans rfl
theorem t_189_72 {Ls : Nat} {xs : Nat → Int32} : am_tbl Ls xs 189 72 = some (o_iald 1) := (m_189 72).trans rfl
theorem t_189_73 {Ls : Nat} {xs : Nat → Int32} : am_tbl Ls xs 189 73 = some (o_goto 78) := (m_189 73).trans rfl
theorem t_189_76 {Ls : Nat} {xs : Nat → Int32} : am_tbl Ls xs 189 76 = some (o_push (.int 1000000000) 2) := (m_189 76).trans rfl
theorem t_189_78 {Ls : Nat} {xs : Nat → Int32} : am_tbl Ls xs 189 78 = some (o_nrm [0, 1, 2, 3] (o_istore 4 2)) := (m_189 78).trans rfl
theorem t_189_80 {Ls : Nat} {xs : Nat → Int32} : am_tbl Ls xs 189 80 = some (o_nrm [0, 1, 2, 3, 4] (o_iload 4 2)) := (m_189 80).trans rfl
theorem t_189_82 {Ls : Nat} {xs : Nat → Int32} : am_tbl Ls xs 189 82 = some (o_push (.int 1000000000) 2) := (m_189 82).trans rfl
theorem t_189_84 {Ls : Nat} {xs : Nat → Int32} : am_tbl Ls xs 189 84 = some (o_icmp (fun x y => decide (x ≠ y)) 92) := (m_189 84).trans rfl
theorem t_189_87 {Ls : Nat} {xs : Nat → Int32} : am_tbl Ls xs 189 87 = some (o_push (.int 1000000000) 2) := (m_189 87).trans rfl
theorem t_189_89 {Ls : Nat} {xs : Nat → Int32} : am_tbl Ls xs 189 89 = some (o_goto 115) := (m_189 89).trans rfl
theorem t_189_92 {Ls : Nat} {xs : Nat → Int32} : am_tbl Ls xs 189 92 = some (o_iload 4 2) := (m_189 92).trans rfl
theorem t_189_94 {Ls : Nat} {xs : Nat → Int32} : am_tbl Ls xs 189 94 = some (o_aload 0 1) := (m_189 94).trans rfl
theorem t_189_95 {Ls : Nat} {xs : Nat → Int32} : am_tbl Ls xs 189 95 = some (o_get 7 0) := (m_189 95).trans rfl
theorem t_189_98 {Ls : Nat} {xs : Nat → Int32} : am_tbl Ls xs 189 98 = some (o_iload 1 1) := (m_189 98).trans rfl
theorem t_189_99 {Ls : Nat} {xs : Nat → Int32} : am_tbl Ls xs 189 99 = some (o_iload 2 1) := (m_189 99).trans rfl
theorem t_189_100 {Ls : Nat} {xs : Nat → Int32} : am_tbl Ls xs 189 100 = some (o_iload 3 1) := (m_189 100).trans rfl
theorem t_189_101 {Ls : Nat} {xs : Nat → Int32} : am_tbl Ls xs 189 101 = some (o_callv 176 3 5 4) := (m_189 101).trans rfl
theorem t_189_104 {Ls : Nat} {xs : Nat → Int32} : am_tbl Ls xs 189 104 = some (o_aload 0 1) := (m_189 104).trans rfl
theorem t_189_105 {Ls : Nat} {xs : Nat → Int32} : am_tbl Ls xs 189 105 = some (o_get 7 1) := (m_189 105).trans rfl
theorem t_189_108 {Ls : Nat} {xs : Nat → Int32} : am_tbl Ls xs 189 108 = some (o_get 2 8) := (m_189 108).trans rfl
theorem t_189_111 {Ls : Nat} {xs : Nat → Int32} : am_tbl Ls xs 189 111 = some (o_iload 3 1) := (m_189 111).trans rfl
set_option maxRecDepth 20000 in
theorem t_189_112 {Ls : Nat} {xs : Nat → Int32} : am_tbl Ls xs 189 112 = some (o_iald 1) := (m_189 112).trans rfl
set_option maxRecDepth 20000 in
theorem t_189_113 {Ls : Nat} {xs : Nat → Int32} : am_tbl Ls xs 189 113 = some (o_ibin (fun x y => x * y)) := (m_189 113).trans rfl
set_option maxRecDepth 20000 in
theorem t_189_114 {Ls : Nat} {xs : Nat → Int32} : am_tbl Ls xs 189 114 = some (o_ibin (fun x y => x + y)) := (m_189 114).trans rfl
set_option maxRecDepth 20000 in
theorem t_189_115 {Ls : Nat} {xs : Nat → Int32} : am_tbl Ls xs 189 115 = some (o_nrm [] (o_iret)) := (m_189 115).trans rfl
theorem m_190 {Ls : Nat} {xs : Nat → Int32} (pc : Nat) : am_tbl Ls xs 190 pc = am_lk (op_X7_mayBeOn) pc := rfl
theorem t_190_0 {Ls : Nat} {xs : Nat → Int32} : am_tbl Ls xs 190 0 = some (o_aload 0 1) := (m_190 0).trans rfl
theorem t_190_1 {Ls : Nat} {xs : Nat → Int32} : am_tbl Ls xs 190 1 = some (o_get 7 1) := (m_190 1).trans rfl
theorem t_190_4 {Ls : Nat} {xs : Nat → Int32} : am_tbl Ls xs 190 4 = some (o_iload 2 1) := (m_190 4).trans rfl
theorem t_190_5 {Ls : Nat} {xs : Nat → Int32} : am_tbl Ls xs 190 5 = some (o_callv 133 1 2 2) := (m_190 5).trans rfl
theorem t_190_8 {Ls : Nat} {xs : Nat → Int32} : am_tbl Ls xs 190 8 = some (o_if (fun x => decide (x = 0)) 23) := (m_190 8).trans rfl
theorem t_190_11 {Ls : Nat} {xs : Nat → Int32} : am_tbl Ls xs 190 11 = some (o_aload 0 1) := (m_190 11).trans rfl
theorem t_190_12 {Ls : Nat} {xs : Nat → Int32} : am_tbl Ls xs 190 12 = some (o_get 7 2) := (m_190 12).trans rfl
theorem t_190_15 {Ls : Nat} {xs : Nat → Int32} : am_tbl Ls xs 190 15 = some (o_get 6 3) := (m_190 15).trans rfl
theorem t_190_18 {Ls : Nat} {xs : Nat → Int32} : am_tbl Ls xs 190 18 = some (o_iload 2 1) := (m_190 18).trans rfl
theorem t_190_19 {Ls : Nat} {xs : Nat → Int32} : am_tbl Ls xs 190 19 = some (o_iald 1) := (m_190 19).trans rfl
theorem t_190_20 {Ls : Nat} {xs : Nat → Int32} : am_tbl Ls xs 190 20 = some (o_if (fun x => decide (x ≤ 0)) 25) := (m_190 20).trans rfl
theorem t_190_23 {Ls : Nat} {xs : Nat → Int32} : am_tbl Ls xs 190 23 = some (o_nrm [] (o_push (.int 0) 1)) := (m_190 23).trans rfl
theorem t_190_24 {Ls : Nat} {xs : Nat → Int32} : am_tbl Ls xs 190 24 = some (o_zret) := (m_190 24).trans rfl
theorem t_190_25 {Ls : Nat} {xs : Nat → Int32} : am_tbl Ls xs 190 25 = some (o_push (.int 0) 1) := (m_190 25).trans rfl
theorem t_190_26 {Ls : Nat} {xs : Nat → Int32} : am_tbl Ls xs 190 26 = some (o_istore 4 2) := (m_190 26).trans rfl
theorem t_190_28 {Ls : Nat} {xs : Nat → Int32} : am_tbl Ls xs 190 28 = some (o_nrm [0, 1, 2, 3, 4] (o_iload 4 2)) := (m_190 28).trans rfl
theorem t_190_30 {Ls : Nat} {xs : Nat → Int32} : am_tbl Ls xs 190 30 = some (o_aload 0 1) := (m_190 30).trans rfl
theorem t_190_31 {Ls : Nat} {xs : Nat → Int32} : am_tbl Ls xs 190 31 = some (o_get 7 3) := (m_190 31).trans rfl
theorem t_190_34 {Ls : Nat} {xs : Nat → Int32} : am_tbl Ls xs 190 34 = some (o_get 4 3) := (m_190 34).trans rfl
theorem t_190_37 {Ls : Nat} {xs : Nat → Int32} : am_tbl Ls xs 190 37 = some (o_icmp (fun x y => decide (y ≤ x)) 87) := (m_190 37).trans rfl
theorem t_190_40 {Ls : Nat} {xs : Nat → Int32} : am_tbl Ls xs 190 40 = some (o_aload 0 1) := (m_190 40).trans rfl
theorem t_190_41 {Ls : Nat} {xs : Nat → Int32} : am_tbl Ls xs 190 41 = some (o_get 7 3) := (m_190 41).trans rfl
theorem t_190_44 {Ls : Nat} {xs : Nat → Int32} : am_tbl Ls xs 190 44 = some (o_iload 4 2) := (m_190 44).trans rfl
theorem t_190_46 {Ls : Nat} {xs : Nat → Int32} : am_tbl Ls xs 190 46 = some (o_callv 163 1 4 2) := (m_190 46).trans rfl
theorem t_190_49 {Ls : Nat} {xs : Nat → Int32} : am_tbl Ls xs 190 49 = some (o_iload 1 1) := (m_190 49).trans rfl
theorem t_190_50 {Ls : Nat} {xs : Nat → Int32} : am_tbl Ls xs 190 50 = some (o_icmp (fun x y => decide (x ≠ y)) 81) := (m_190 50).trans rfl
theorem t_190_53 {Ls : Nat} {xs : Nat → Int32} : am_tbl Ls xs 190 53 = some (o_aload 0 1) := (m_190 53).trans rfl
theorem t_190_54 {Ls : Nat} {xs : Nat → Int32} : am_tbl Ls xs 190 54 = some (o_get 7 3) := (m_190 54).trans rfl
theorem t_190_57 {Ls : Nat} {xs : Nat → Int32} : am_tbl Ls xs 190 57 = some (o_iload 4 2) := (m_190 57).trans rfl
theorem t_190_59 {Ls : Nat} {xs : Nat → Int32} : am_tbl Ls xs 190 59 = some (o_callv 165 1 4 2) := (m_190 59).trans rfl
theorem t_190_62 {Ls : Nat} {xs : Nat → Int32} : am_tbl Ls xs 190 62 = some (o_iload 3 1) := (m_190 62).trans rfl
theorem t_190_63 {Ls : Nat} {xs : Nat → Int32} : am_tbl Ls xs 190 63 = some (o_icmp (fun x y => decide (x ≠ y)) 81) := (m_190 63).trans rfl
theorem t_190_66 {Ls : Nat} {xs : Nat → Int32} : am_tbl Ls xs 190 66 = some (o_aload 0 1) := (m_190 66).trans rfl
theorem t_190_67 {Ls : Nat} {xs : Nat → Int32} : am_tbl Ls xs 190 67 = some (o_get 7 3) := (m_190 67).trans rfl
theorem t_190_70 {Ls : Nat} {xs : Nat → Int32} : am_tbl Ls xs 190 70 = some (o_iload 4 2) := (m_190 70).trans rfl
theorem t_190_72 {Ls : Nat} {xs : Nat → Int32} : am_tbl Ls xs 190 72 = some (o_callv 164 1 4 2) := (m_190 72).trans rfl
theorem t_190_75 {Ls : Nat} {xs : Nat → Int32} : am_tbl Ls xs 190 75 = some (o_iload 2 1) := (m_190 75).trans rfl
theorem t_190_76 {Ls : Nat} {xs : Nat → Int32} : am_tbl Ls xs 190 76 = some (o_icmp (fun x y => decide (x = y)) 81) := (m_190 76).trans rfl
theorem t_190_79 {Ls : Nat} {xs : Nat → Int32} : am_tbl Ls xs 190 79 = some (o_push (.int 0) 1) := (m_190 79).trans rfl
theorem t_190_80 {Ls : Nat} {xs : Nat → Int32} : am_tbl Ls xs 190 80 = some (o_zret) := (m_190 80).trans rfl
theorem t_190_81 {Ls : Nat} {xs : Nat → Int32} : am_tbl Ls xs 190 81 = some (o_nrm [0, 1, 2, 3, 4] (o_iinc 4 1)) := (m_190 81).trans rfl
theorem t_190_84 {Ls : Nat} {xs : Nat → Int32} : am_tbl Ls xs 190 84 = some (o_goto 28) := (m_190 84).trans rfl
theorem t_190_87 {Ls : Nat} {xs : Nat → Int32} : am_tbl Ls xs 190 87 = some (o_push (.int 1) 1) := (m_190 87).trans rfl
theorem t_190_88 {Ls : Nat} {xs : Nat → Int32} : am_tbl Ls xs 190 88 = some (o_zret) := (m_190 88).trans rfl
theorem m_191 {Ls : Nat} {xs : Nat → Int32} (pc : Nat) : am_tbl Ls xs 191 pc = am_lk (op_X7_bestNext) pc := rfl
theorem t_191_0 {Ls : Nat} {xs : Nat → Int32} : am_tbl Ls xs 191 0 = some (o_push (.int (-1)) 1) := (m_191 0).trans rfl
theorem t_191_1 {Ls : Nat} {xs : Nat → Int32} : am_tbl Ls xs 191 1 = some (o_istore 3 1) := (m_191 1).trans rfl
theorem t_191_2 {Ls : Nat} {xs : Nat → Int32} : am_tbl Ls xs 191 2 = some (o_push (.int 1000000000) 2) := (m_191 2).trans rfl
theorem t_191_4 {Ls : Nat} {xs : Nat → Int32} : am_tbl Ls xs 191 4 = some (o_istore 4 2) := (m_191 4).trans rfl
theorem t_191_6 {Ls : Nat} {xs : Nat → Int32} : am_tbl Ls xs 191 6 = some (o_aload 0 1) := (m_191 6).trans rfl
theorem t_191_7 {Ls : Nat} {xs : Nat → Int32} : am_tbl Ls xs 191 7 = some (o_get 7 1) := (m_191 7).trans rfl
theorem t_191_10 {Ls : Nat} {xs : Nat → Int32} : am_tbl Ls xs 191 10 = some (o_iload 1 1) := (m_191 10).trans rfl
theorem t_191_11 {Ls : Nat} {xs : Nat → Int32} : am_tbl Ls xs 191 11 = some (o_callv 133 1 2 2) := (m_191 11).trans rfl
theorem t_191_14 {Ls : Nat} {xs : Nat → Int32} : am_tbl Ls xs 191 14 = some (o_if (fun x => decide (x ≠ 0)) 19) := (m_191 14).trans rfl
theorem t_191_17 {Ls : Nat} {xs : Nat → Int32} : am_tbl Ls xs 191 17 = some (o_push (.int (-1)) 1) := (m_191 17).trans rfl
theorem t_191_18 {Ls : Nat} {xs : Nat → Int32} : am_tbl Ls xs 191 18 = some (o_iret) := (m_191 18).trans rfl
theorem t_191_19 {Ls : Nat} {xs : Nat → Int32} : am_tbl Ls xs 191 19 = some (o_push (.int (-1)) 1) := (m_191 19).trans rfl
theorem t_191_20 {Ls : Nat} {xs : Nat → Int32} : am_tbl Ls xs 191 20 = some (o_istore 5 2) := (m_191 20).trans rfl
theorem t_191_22 {Ls : Nat} {xs : Nat → Int32} : am_tbl Ls xs 191 22 = some (o_nrm [0, 1, 2, 3, 4, 5] (o_iload 5 2)) := (m_191 22).trans rfl
theorem t_191_24 {Ls : Nat} {xs : Nat → Int32} : am_tbl Ls xs 191 24 = some (o_push (.int 1) 1) := (m_191 24).trans rfl
theorem t_191_25 {Ls : Nat} {xs : Nat → Int32} : am_tbl Ls xs 191 25 = some (o_icmp (fun x y => decide (y < x)) 131) := (m_191 25).trans rfl
theorem t_191_28 {Ls : Nat} {xs : Nat → Int32} : am_tbl Ls xs 191 28 = some (o_push (.int (-1)) 1) := (m_191 28).trans rfl
theorem t_191_29 {Ls : Nat} {xs : Nat → Int32} : am_tbl Ls xs 191 29 = some (o_istore 6 2) := (m_191 29).trans rfl
theorem t_191_31 {Ls : Nat} {xs : Nat → Int32} : am_tbl Ls xs 191 31 = some (o_nrm [0, 1, 2, 3, 4, 5, 6] (o_iload 6 2)) := (m_191 31).trans rfl
theorem t_191_33 {Ls : Nat} {xs : Nat → Int32} : am_tbl Ls xs 191 33 = some (o_push (.int 1) 1) := (m_191 33).trans rfl
theorem t_191_34 {Ls : Nat} {xs : Nat → Int32} : am_tbl Ls xs 191 34 = some (o_icmp (fun x y => decide (y < x)) 125) := (m_191 34).trans rfl
theorem t_191_37 {Ls : Nat} {xs : Nat → Int32} : am_tbl Ls xs 191 37 = some (o_aload 0 1) := (m_191 37).trans rfl
theorem t_191_38 {Ls : Nat} {xs : Nat → Int32} : am_tbl Ls xs 191 38 = some (o_get 7 1) := (m_191 38).trans rfl
theorem t_191_41 {Ls : Nat} {xs : Nat → Int32} : am_tbl Ls xs 191 41 = some (o_aload 0 1) := (m_191 41).trans rfl
theorem t_191_42 {Ls : Nat} {xs : Nat → Int32} : am_tbl Ls xs 191 42 = some (o_get 7 1) := (m_191 42).trans rfl
theorem t_191_45 {Ls : Nat} {xs : Nat → Int32} : am_tbl Ls xs 191 45 = some (o_iload 1 1) := (m_191 45).trans rfl
theorem t_191_46 {Ls : Nat} {xs : Nat → Int32} : am_tbl Ls xs 191 46 = some (o_callv 138 1 2 2) := (m_191 46).trans rfl
theorem t_191_49 {Ls : Nat} {xs : Nat → Int32} : am_tbl Ls xs 191 49 = some (o_iload 6 2) := (m_191 49).trans rfl
theorem t_191_51 {Ls : Nat} {xs : Nat → Int32} : am_tbl Ls xs 191 51 = some (o_ibin (fun x y => x + y)) := (m_191 51).trans rfl
theorem t_191_52 {Ls : Nat} {xs : Nat → Int32} : am_tbl Ls xs 191 52 = some (o_aload 0 1) := (m_191 52).trans rfl
theorem t_191_53 {Ls : Nat} {xs : Nat → Int32} : am_tbl Ls xs 191 53 = some (o_get 7 1) := (m_191 53).trans rfl
theorem t_191_56 {Ls : Nat} {xs : Nat → Int32} : am_tbl Ls xs 191 56 = some (o_iload 1 1) := (m_191 56).trans rfl
theorem t_191_57 {Ls : Nat} {xs : Nat → Int32} : am_tbl Ls xs 191 57 = some (o_callv 139 1 2 2) := (m_191 57).trans rfl
theorem t_191_60 {Ls : Nat} {xs : Nat → Int32} : am_tbl Ls xs 191 60 = some (o_iload 5 2) := (m_191 60).trans rfl
theorem t_191_62 {Ls : Nat} {xs : Nat → Int32} : am_tbl Ls xs 191 62 = some (o_ibin (fun x y => x + y)) := (m_191 62).trans rfl
theorem t_191_63 {Ls : Nat} {xs : Nat → Int32} : am_tbl Ls xs 191 63 = some (o_callv 137 2 2 3) := (m_191 63).trans rfl
theorem t_191_66 {Ls : Nat} {xs : Nat → Int32} : am_tbl Ls xs 191 66 = some (o_istore 7 2) := (m_191 66).trans rfl
theorem t_191_68 {Ls : Nat} {xs : Nat → Int32} : am_tbl Ls xs 191 68 = some (o_aload 0 1) := (m_191 68).trans rfl
theorem t_191_69 {Ls : Nat} {xs : Nat → Int32} : am_tbl Ls xs 191 69 = some (o_get 7 1) := (m_191 69).trans rfl
theorem t_191_72 {Ls : Nat} {xs : Nat → Int32} : am_tbl Ls xs 191 72 = some (o_iload 7 2) := (m_191 72).trans rfl
theorem t_191_74 {Ls : Nat} {xs : Nat → Int32} : am_tbl Ls xs 191 74 = some (o_callv 133 1 2 2) := (m_191 74).trans rfl
theorem t_191_77 {Ls : Nat} {xs : Nat → Int32} : am_tbl Ls xs 191 77 = some (o_if (fun x => decide (x = 0)) 119) := (m_191 77).trans rfl
theorem t_191_80 {Ls : Nat} {xs : Nat → Int32} : am_tbl Ls xs 191 80 = some (o_aload 0 1) := (m_191 80).trans rfl
theorem t_191_81 {Ls : Nat} {xs : Nat → Int32} : am_tbl Ls xs 191 81 = some (o_get 7 1) := (m_191 81).trans rfl
theorem t_191_84 {Ls : Nat} {xs : Nat → Int32} : am_tbl Ls xs 191 84 = some (o_iload 2 1) := (m_191 84).trans rfl
theorem t_191_85 {Ls : Nat} {xs : Nat → Int32} : am_tbl Ls xs 191 85 = some (o_callv 134 1 2 2) := (m_191 85).trans rfl
theorem t_191_88 {Ls : Nat} {xs : Nat → Int32} : am_tbl Ls xs 191 88 = some (o_if (fun x => decide (x = 0)) 119) := (m_191 88).trans rfl
theorem t_191_91 {Ls : Nat} {xs : Nat → Int32} : am_tbl Ls xs 191 91 = some (o_aload 0 1) := (m_191 91).trans rfl
theorem t_191_92 {Ls : Nat} {xs : Nat → Int32} : am_tbl Ls xs 191 92 = some (o_get 7 4) := (m_191 92).trans rfl
theorem t_191_95 {Ls : Nat} {xs : Nat → Int32} : am_tbl Ls xs 191 95 = some (o_iload 2 1) := (m_191 95).trans rfl
theorem t_191_96 {Ls : Nat} {xs : Nat → Int32} : am_tbl Ls xs 191 96 = some (o_aald) := (m_191 96).trans rfl
theorem t_191_97 {Ls : Nat} {xs : Nat → Int32} : am_tbl Ls xs 191 97 = some (o_iload 7 2) := (m_191 97).trans rfl
theorem t_191_99 {Ls : Nat} {xs : Nat → Int32} : am_tbl Ls xs 191 99 = some (o_iald 1) := (m_191 99).trans rfl
theorem t_191_100 {Ls : Nat} {xs : Nat → Int32} : am_tbl Ls xs 191 100 = some (o_iload 4 2) := (m_191 100).trans rfl
theorem t_191_102 {Ls : Nat} {xs : Nat → Int32} : am_tbl Ls xs 191 102 = some (o_icmp (fun x y => decide (y ≤ x)) 119) := (m_191 102).trans rfl
theorem t_191_105 {Ls : Nat} {xs : Nat → Int32} : am_tbl Ls xs 191 105 = some (o_aload 0 1) := (m_191 105).trans rfl
theorem t_191_106 {Ls : Nat} {xs : Nat → Int32} : am_tbl Ls xs 191 106 = some (o_get 7 4) := (m_191 106).trans rfl
theorem t_191_109 {Ls : Nat} {xs : Nat → Int32} : am_tbl Ls xs 191 109 = some (o_iload 2 1) := (m_191 109).trans rfl
theorem t_191_110 {Ls : Nat} {xs : Nat → Int32} : am_tbl Ls xs 191 110 = some (o_aald) := (m_191 110).trans rfl
theorem t_191_111 {Ls : Nat} {xs : Nat → Int32} : am_tbl Ls xs 191 111 = some (o_iload 7 2) := (m_191 111).trans rfl
theorem t_191_113 {Ls : Nat} {xs : Nat → Int32} : am_tbl Ls xs 191 113 = some (o_iald 1) := (m_191 113).trans rfl
set_option maxRecDepth 20000 in
theorem t_191_114 {Ls : Nat} {xs : Nat → Int32} : am_tbl Ls xs 191 114 = some (o_istore 4 2) := (m_191 114).trans rfl
set_option maxRecDepth 20000 in
theorem t_191_116 {Ls : Nat} {xs : Nat → Int32} : am_tbl Ls xs 191 116 = some (o_iload 7 2) := (m_191 116).trans rfl
set_option maxRecDepth 20000 in
theorem t_191_118 {Ls : Nat} {xs : Nat → Int32} : am_tbl Ls xs 191 118 = some (o_istore 3 1) := (m_191 118).trans rfl
set_option maxRecDepth 20000 in
theorem t_191_119 {Ls : Nat} {xs : Nat → Int32} : am_tbl Ls xs 191 119 = some (o_nrm [0, 1, 2, 3, 4, 5, 6] (o_iinc 6 1)) := (m_191 119).trans rfl
set_option maxRecDepth 20000 in
theorem t_191_122 {Ls : Nat} {xs : Nat → Int32} : am_tbl Ls xs 191 122 = some (o_goto 31) := (m_191 122).trans rfl
set_option maxRecDepth 20000 in
theorem t_191_125 {Ls : Nat} {xs : Nat → Int32} : am_tbl Ls xs 191 125 = some (o_iinc 5 1) := (m_191 125).trans rfl
set_option maxRecDepth 20000 in
theorem t_191_128 {Ls : Nat} {xs : Nat → Int32} : am_tbl Ls xs 191 128 = some (o_goto 22) := (m_191 128).trans rfl
set_option maxRecDepth 20000 in
theorem t_191_131 {Ls : Nat} {xs : Nat → Int32} : am_tbl Ls xs 191 131 = some (o_iload 3 1) := (m_191 131).trans rfl
set_option maxRecDepth 20000 in
theorem t_191_132 {Ls : Nat} {xs : Nat → Int32} : am_tbl Ls xs 191 132 = some (o_iret) := (m_191 132).trans rfl
theorem m_192 {Ls : Nat} {xs : Nat → Int32} (pc : Nat) : am_tbl Ls xs 192 pc = am_lk (op_X7_cellAtHour) pc := rfl
theorem t_192_0 {Ls : Nat} {xs : Nat → Int32} : am_tbl Ls xs 192 0 = some (o_aload 0 1) := (m_192 0).trans rfl
theorem t_192_1 {Ls : Nat} {xs : Nat → Int32} : am_tbl Ls xs 192 1 = some (o_get 7 1) := (m_192 1).trans rfl
theorem t_192_4 {Ls : Nat} {xs : Nat → Int32} : am_tbl Ls xs 192 4 = some (o_iload 1 1) := (m_192 4).trans rfl
theorem t_192_5 {Ls : Nat} {xs : Nat → Int32} : am_tbl Ls xs 192 5 = some (o_callv 135 1 2 2) := (m_192 5).trans rfl
theorem t_192_8 {Ls : Nat} {xs : Nat → Int32} : am_tbl Ls xs 192 8 = some (o_if (fun x => decide (x = 0)) 23) := (m_192 8).trans rfl
theorem t_192_11 {Ls : Nat} {xs : Nat → Int32} : am_tbl Ls xs 192 11 = some (o_aload 0 1) := (m_192 11).trans rfl
theorem t_192_12 {Ls : Nat} {xs : Nat → Int32} : am_tbl Ls xs 192 12 = some (o_get 7 2) := (m_192 12).trans rfl
theorem t_192_15 {Ls : Nat} {xs : Nat → Int32} : am_tbl Ls xs 192 15 = some (o_get 6 0) := (m_192 15).trans rfl
theorem t_192_18 {Ls : Nat} {xs : Nat → Int32} : am_tbl Ls xs 192 18 = some (o_iload 1 1) := (m_192 18).trans rfl
theorem t_192_19 {Ls : Nat} {xs : Nat → Int32} : am_tbl Ls xs 192 19 = some (o_iald 1) := (m_192 19).trans rfl
theorem t_192_20 {Ls : Nat} {xs : Nat → Int32} : am_tbl Ls xs 192 20 = some (o_goto 24) := (m_192 20).trans rfl
theorem t_192_23 {Ls : Nat} {xs : Nat → Int32} : am_tbl Ls xs 192 23 = some (o_push (.int (-1)) 1) := (m_192 23).trans rfl
theorem t_192_24 {Ls : Nat} {xs : Nat → Int32} : am_tbl Ls xs 192 24 = some (o_nrm [0, 2] (o_istore 3 1)) := (m_192 24).trans rfl
theorem t_192_25 {Ls : Nat} {xs : Nat → Int32} : am_tbl Ls xs 192 25 = some (o_push (.int 1) 1) := (m_192 25).trans rfl
theorem t_192_26 {Ls : Nat} {xs : Nat → Int32} : am_tbl Ls xs 192 26 = some (o_istore 4 2) := (m_192 26).trans rfl
theorem t_192_28 {Ls : Nat} {xs : Nat → Int32} : am_tbl Ls xs 192 28 = some (o_nrm [0, 2, 3, 4] (o_iload 4 2)) := (m_192 28).trans rfl
theorem t_192_30 {Ls : Nat} {xs : Nat → Int32} : am_tbl Ls xs 192 30 = some (o_iload 2 1) := (m_192 30).trans rfl
theorem t_192_31 {Ls : Nat} {xs : Nat → Int32} : am_tbl Ls xs 192 31 = some (o_icmp (fun x y => decide (y < x)) 60) := (m_192 31).trans rfl
theorem t_192_34 {Ls : Nat} {xs : Nat → Int32} : am_tbl Ls xs 192 34 = some (o_iload 4 2) := (m_192 34).trans rfl
theorem t_192_36 {Ls : Nat} {xs : Nat → Int32} : am_tbl Ls xs 192 36 = some (o_aload 0 1) := (m_192 36).trans rfl
theorem t_192_37 {Ls : Nat} {xs : Nat → Int32} : am_tbl Ls xs 192 37 = some (o_get 7 1) := (m_192 37).trans rfl
theorem t_192_40 {Ls : Nat} {xs : Nat → Int32} : am_tbl Ls xs 192 40 = some (o_get 2 3) := (m_192 40).trans rfl
theorem t_192_43 {Ls : Nat} {xs : Nat → Int32} : am_tbl Ls xs 192 43 = some (o_icmp (fun x y => decide (y ≤ x)) 60) := (m_192 43).trans rfl
theorem t_192_46 {Ls : Nat} {xs : Nat → Int32} : am_tbl Ls xs 192 46 = some (o_aload 0 1) := (m_192 46).trans rfl
theorem t_192_47 {Ls : Nat} {xs : Nat → Int32} : am_tbl Ls xs 192 47 = some (o_iload 3 1) := (m_192 47).trans rfl
theorem t_192_48 {Ls : Nat} {xs : Nat → Int32} : am_tbl Ls xs 192 48 = some (o_iload 4 2) := (m_192 48).trans rfl
theorem t_192_50 {Ls : Nat} {xs : Nat → Int32} : am_tbl Ls xs 192 50 = some (o_callv 191 2 7 8) := (m_192 50).trans rfl
theorem t_192_53 {Ls : Nat} {xs : Nat → Int32} : am_tbl Ls xs 192 53 = some (o_istore 3 1) := (m_192 53).trans rfl
theorem t_192_54 {Ls : Nat} {xs : Nat → Int32} : am_tbl Ls xs 192 54 = some (o_iinc 4 1) := (m_192 54).trans rfl
theorem t_192_57 {Ls : Nat} {xs : Nat → Int32} : am_tbl Ls xs 192 57 = some (o_goto 28) := (m_192 57).trans rfl
theorem t_192_60 {Ls : Nat} {xs : Nat → Int32} : am_tbl Ls xs 192 60 = some (o_nrm [3] (o_iload 3 1)) := (m_192 60).trans rfl
theorem t_192_61 {Ls : Nat} {xs : Nat → Int32} : am_tbl Ls xs 192 61 = some (o_iret) := (m_192 61).trans rfl
