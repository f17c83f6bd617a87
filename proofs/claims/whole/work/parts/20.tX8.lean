/-! THE TABLES BY PLACE -/
theorem m_76 {Ls : Nat} {xs : Nat → Int32} (pc : Nat) : am_tbl Ls xs 76 pc = am_lk (op_X8_feed) pc := rfl
theorem t_76_0 {Ls : Nat} {xs : Nat → Int32} : am_tbl Ls xs 76 0 = some (o_iload 1 1) := (m_76 0).trans rfl
theorem t_76_1 {Ls : Nat} {xs : Nat → Int32} : am_tbl Ls xs 76 1 = some (o_push (.int 1) 1) := (m_76 1).trans rfl
theorem t_76_2 {Ls : Nat} {xs : Nat → Int32} : am_tbl Ls xs 76 2 = some (o_icmp (fun x y => decide (x < y)) 11) := (m_76 2).trans rfl
theorem t_76_5 {Ls : Nat} {xs : Nat → Int32} : am_tbl Ls xs 76 5 = some (o_iload 1 1) := (m_76 5).trans rfl
theorem t_76_6 {Ls : Nat} {xs : Nat → Int32} : am_tbl Ls xs 76 6 = some (o_push (.int 8) 2) := (m_76 6).trans rfl
theorem t_76_8 {Ls : Nat} {xs : Nat → Int32} : am_tbl Ls xs 76 8 = some (o_icmp (fun x y => decide (x ≤ y)) 14) := (m_76 8).trans rfl
theorem t_76_11 {Ls : Nat} {xs : Nat → Int32} : am_tbl Ls xs 76 11 = some (o_nrm [] (o_push (.int (-1000000002)) 2)) := (m_76 11).trans rfl
theorem t_76_13 {Ls : Nat} {xs : Nat → Int32} : am_tbl Ls xs 76 13 = some (o_iret) := (m_76 13).trans rfl
theorem t_76_14 {Ls : Nat} {xs : Nat → Int32} : am_tbl Ls xs 76 14 = some (o_aload 0 1) := (m_76 14).trans rfl
theorem t_76_15 {Ls : Nat} {xs : Nat → Int32} : am_tbl Ls xs 76 15 = some (o_get 8 0) := (m_76 15).trans rfl
theorem t_76_18 {Ls : Nat} {xs : Nat → Int32} : am_tbl Ls xs 76 18 = some (o_get 3 6) := (m_76 18).trans rfl
theorem t_76_21 {Ls : Nat} {xs : Nat → Int32} : am_tbl Ls xs 76 21 = some (o_iload 1 1) := (m_76 21).trans rfl
theorem t_76_22 {Ls : Nat} {xs : Nat → Int32} : am_tbl Ls xs 76 22 = some (o_ibin (fun x y => x + y)) := (m_76 22).trans rfl
theorem t_76_23 {Ls : Nat} {xs : Nat → Int32} : am_tbl Ls xs 76 23 = some (o_push (.int 500) 3) := (m_76 23).trans rfl
theorem t_76_26 {Ls : Nat} {xs : Nat → Int32} : am_tbl Ls xs 76 26 = some (o_icmp (fun x y => decide (x ≤ y)) 32) := (m_76 26).trans rfl
theorem t_76_29 {Ls : Nat} {xs : Nat → Int32} : am_tbl Ls xs 76 29 = some (o_push (.int (-1000000004)) 2) := (m_76 29).trans rfl
theorem t_76_31 {Ls : Nat} {xs : Nat → Int32} : am_tbl Ls xs 76 31 = some (o_iret) := (m_76 31).trans rfl
theorem t_76_32 {Ls : Nat} {xs : Nat → Int32} : am_tbl Ls xs 76 32 = some (o_aload 0 1) := (m_76 32).trans rfl
theorem t_76_33 {Ls : Nat} {xs : Nat → Int32} : am_tbl Ls xs 76 33 = some (o_get 8 0) := (m_76 33).trans rfl
theorem t_76_36 {Ls : Nat} {xs : Nat → Int32} : am_tbl Ls xs 76 36 = some (o_iload 1 1) := (m_76 36).trans rfl
theorem t_76_37 {Ls : Nat} {xs : Nat → Int32} : am_tbl Ls xs 76 37 = some (o_lload 2 1) := (m_76 37).trans rfl
theorem t_76_38 {Ls : Nat} {xs : Nat → Int32} : am_tbl Ls xs 76 38 = some (o_callv 144 2 3 5) := (m_76 38).trans rfl
theorem t_76_41 {Ls : Nat} {xs : Nat → Int32} : am_tbl Ls xs 76 41 = some (o_aload 0 1) := (m_76 41).trans rfl
theorem t_76_42 {Ls : Nat} {xs : Nat → Int32} : am_tbl Ls xs 76 42 = some (o_get 8 0) := (m_76 42).trans rfl
theorem t_76_45 {Ls : Nat} {xs : Nat → Int32} : am_tbl Ls xs 76 45 = some (o_get 3 6) := (m_76 45).trans rfl
theorem t_76_48 {Ls : Nat} {xs : Nat → Int32} : am_tbl Ls xs 76 48 = some (o_iret) := (m_76 48).trans rfl
theorem m_77 {Ls : Nat} {xs : Nat → Int32} (pc : Nat) : am_tbl Ls xs 77 pc = am_lk (op_X8_ground) pc := rfl
theorem t_77_0 {Ls : Nat} {xs : Nat → Int32} : am_tbl Ls xs 77 0 = some (o_aload 0 1) := (m_77 0).trans rfl
theorem t_77_1 {Ls : Nat} {xs : Nat → Int32} : am_tbl Ls xs 77 1 = some (o_get 8 0) := (m_77 1).trans rfl
theorem t_77_4 {Ls : Nat} {xs : Nat → Int32} : am_tbl Ls xs 77 4 = some (o_aload 0 1) := (m_77 4).trans rfl
theorem t_77_5 {Ls : Nat} {xs : Nat → Int32} : am_tbl Ls xs 77 5 = some (o_get 8 1) := (m_77 5).trans rfl
theorem t_77_8 {Ls : Nat} {xs : Nat → Int32} : am_tbl Ls xs 77 8 = some (o_callv 145 1 3 3) := (m_77 8).trans rfl
theorem t_77_11 {Ls : Nat} {xs : Nat → Int32} : am_tbl Ls xs 77 11 = some (o_istore 1 1) := (m_77 11).trans rfl
theorem t_77_12 {Ls : Nat} {xs : Nat → Int32} : am_tbl Ls xs 77 12 = some (o_iload 1 1) := (m_77 12).trans rfl
theorem t_77_13 {Ls : Nat} {xs : Nat → Int32} : am_tbl Ls xs 77 13 = some (o_if (fun x => decide (x = 0)) 21) := (m_77 13).trans rfl
theorem t_77_16 {Ls : Nat} {xs : Nat → Int32} : am_tbl Ls xs 77 16 = some (o_push (.int (-10)) 2) := (m_77 16).trans rfl
theorem t_77_18 {Ls : Nat} {xs : Nat → Int32} : am_tbl Ls xs 77 18 = some (o_iload 1 1) := (m_77 18).trans rfl
theorem t_77_19 {Ls : Nat} {xs : Nat → Int32} : am_tbl Ls xs 77 19 = some (o_ibin (fun x y => x - y)) := (m_77 19).trans rfl
theorem t_77_20 {Ls : Nat} {xs : Nat → Int32} : am_tbl Ls xs 77 20 = some (o_iret) := (m_77 20).trans rfl
theorem t_77_21 {Ls : Nat} {xs : Nat → Int32} : am_tbl Ls xs 77 21 = some (o_aload 0 1) := (m_77 21).trans rfl
theorem t_77_22 {Ls : Nat} {xs : Nat → Int32} : am_tbl Ls xs 77 22 = some (o_get 8 2) := (m_77 22).trans rfl
theorem t_77_25 {Ls : Nat} {xs : Nat → Int32} : am_tbl Ls xs 77 25 = some (o_aload 0 1) := (m_77 25).trans rfl
theorem t_77_26 {Ls : Nat} {xs : Nat → Int32} : am_tbl Ls xs 77 26 = some (o_get 8 1) := (m_77 26).trans rfl
theorem t_77_29 {Ls : Nat} {xs : Nat → Int32} : am_tbl Ls xs 77 29 = some (o_callv 128 1 2 4) := (m_77 29).trans rfl
theorem t_77_32 {Ls : Nat} {xs : Nat → Int32} : am_tbl Ls xs 77 32 = some (o_aload 0 1) := (m_77 32).trans rfl
theorem t_77_33 {Ls : Nat} {xs : Nat → Int32} : am_tbl Ls xs 77 33 = some (o_get 8 3) := (m_77 33).trans rfl
theorem t_77_36 {Ls : Nat} {xs : Nat → Int32} : am_tbl Ls xs 77 36 = some (o_aload 0 1) := (m_77 36).trans rfl
theorem t_77_37 {Ls : Nat} {xs : Nat → Int32} : am_tbl Ls xs 77 37 = some (o_get 8 2) := (m_77 37).trans rfl
theorem t_77_40 {Ls : Nat} {xs : Nat → Int32} : am_tbl Ls xs 77 40 = some (o_callv 184 1 6 3) := (m_77 40).trans rfl
theorem t_77_43 {Ls : Nat} {xs : Nat → Int32} : am_tbl Ls xs 77 43 = some (o_aload 0 1) := (m_77 43).trans rfl
theorem t_77_44 {Ls : Nat} {xs : Nat → Int32} : am_tbl Ls xs 77 44 = some (o_get 8 10) := (m_77 44).trans rfl
theorem t_77_47 {Ls : Nat} {xs : Nat → Int32} : am_tbl Ls xs 77 47 = some (o_callv 167 0 5 3) := (m_77 47).trans rfl
theorem t_77_50 {Ls : Nat} {xs : Nat → Int32} : am_tbl Ls xs 77 50 = some (o_aload 0 1) := (m_77 50).trans rfl
theorem t_77_51 {Ls : Nat} {xs : Nat → Int32} : am_tbl Ls xs 77 51 = some (o_callv 105 0 8 1) := (m_77 51).trans rfl
theorem t_77_54 {Ls : Nat} {xs : Nat → Int32} : am_tbl Ls xs 77 54 = some (o_push (.int 0) 1) := (m_77 54).trans rfl
theorem t_77_55 {Ls : Nat} {xs : Nat → Int32} : am_tbl Ls xs 77 55 = some (o_istore 2 1) := (m_77 55).trans rfl
theorem t_77_56 {Ls : Nat} {xs : Nat → Int32} : am_tbl Ls xs 77 56 = some (o_nrm [0, 2] (o_iload 2 1)) := (m_77 56).trans rfl
theorem t_77_57 {Ls : Nat} {xs : Nat → Int32} : am_tbl Ls xs 77 57 = some (o_push (.int 2) 1) := (m_77 57).trans rfl
theorem t_77_58 {Ls : Nat} {xs : Nat → Int32} : am_tbl Ls xs 77 58 = some (o_icmp (fun x y => decide (y ≤ x)) 74) := (m_77 58).trans rfl
theorem t_77_61 {Ls : Nat} {xs : Nat → Int32} : am_tbl Ls xs 77 61 = some (o_aload 0 1) := (m_77 61).trans rfl
theorem t_77_62 {Ls : Nat} {xs : Nat → Int32} : am_tbl Ls xs 77 62 = some (o_get 8 6) := (m_77 62).trans rfl
theorem t_77_65 {Ls : Nat} {xs : Nat → Int32} : am_tbl Ls xs 77 65 = some (o_iload 2 1) := (m_77 65).trans rfl
theorem t_77_66 {Ls : Nat} {xs : Nat → Int32} : am_tbl Ls xs 77 66 = some (o_push (.int 0) 1) := (m_77 66).trans rfl
theorem t_77_67 {Ls : Nat} {xs : Nat → Int32} : am_tbl Ls xs 77 67 = some (o_iast 1 (fun x => x)) := (m_77 67).trans rfl
theorem t_77_68 {Ls : Nat} {xs : Nat → Int32} : am_tbl Ls xs 77 68 = some (o_iinc 2 1) := (m_77 68).trans rfl
theorem t_77_71 {Ls : Nat} {xs : Nat → Int32} : am_tbl Ls xs 77 71 = some (o_goto 56) := (m_77 71).trans rfl
theorem t_77_74 {Ls : Nat} {xs : Nat → Int32} : am_tbl Ls xs 77 74 = some (o_aload 0 1) := (m_77 74).trans rfl
theorem t_77_75 {Ls : Nat} {xs : Nat → Int32} : am_tbl Ls xs 77 75 = some (o_get 8 2) := (m_77 75).trans rfl
theorem t_77_78 {Ls : Nat} {xs : Nat → Int32} : am_tbl Ls xs 77 78 = some (o_get 2 2) := (m_77 78).trans rfl
theorem t_77_81 {Ls : Nat} {xs : Nat → Int32} : am_tbl Ls xs 77 81 = some (o_iret) := (m_77 81).trans rfl
theorem m_78 {Ls : Nat} {xs : Nat → Int32} (pc : Nat) : am_tbl Ls xs 78 pc = am_lk (op_X8_fault) pc := rfl
theorem t_78_0 {Ls : Nat} {xs : Nat → Int32} : am_tbl Ls xs 78 0 = some (o_aload 0 1) := (m_78 0).trans rfl
theorem t_78_1 {Ls : Nat} {xs : Nat → Int32} : am_tbl Ls xs 78 1 = some (o_get 8 0) := (m_78 1).trans rfl
theorem t_78_4 {Ls : Nat} {xs : Nat → Int32} : am_tbl Ls xs 78 4 = some (o_get 3 7) := (m_78 4).trans rfl
theorem t_78_7 {Ls : Nat} {xs : Nat → Int32} : am_tbl Ls xs 78 7 = some (o_iret) := (m_78 7).trans rfl
theorem m_79 {Ls : Nat} {xs : Nat → Int32} (pc : Nat) : am_tbl Ls xs 79 pc = am_lk (op_X8_told) pc := rfl
theorem t_79_0 {Ls : Nat} {xs : Nat → Int32} : am_tbl Ls xs 79 0 = some (o_iload 1 1) := (m_79 0).trans rfl
theorem t_79_1 {Ls : Nat} {xs : Nat → Int32} : am_tbl Ls xs 79 1 = some (o_tsw 0 11 [64, 72, 80, 88, 96, 104, 112, 120, 128, 136, 144, 152] 160) := (m_79 1).trans rfl
theorem t_79_64 {Ls : Nat} {xs : Nat → Int32} : am_tbl Ls xs 79 64 = some (o_aload 0 1) := (m_79 64).trans rfl
theorem t_79_65 {Ls : Nat} {xs : Nat → Int32} : am_tbl Ls xs 79 65 = some (o_get 8 2) := (m_79 65).trans rfl
theorem t_79_68 {Ls : Nat} {xs : Nat → Int32} : am_tbl Ls xs 79 68 = some (o_get 2 0) := (m_79 68).trans rfl
theorem t_79_71 {Ls : Nat} {xs : Nat → Int32} : am_tbl Ls xs 79 71 = some (o_iret) := (m_79 71).trans rfl
theorem t_79_72 {Ls : Nat} {xs : Nat → Int32} : am_tbl Ls xs 79 72 = some (o_aload 0 1) := (m_79 72).trans rfl
theorem t_79_73 {Ls : Nat} {xs : Nat → Int32} : am_tbl Ls xs 79 73 = some (o_get 8 2) := (m_79 73).trans rfl
theorem t_79_76 {Ls : Nat} {xs : Nat → Int32} : am_tbl Ls xs 79 76 = some (o_get 2 1) := (m_79 76).trans rfl
theorem t_79_79 {Ls : Nat} {xs : Nat → Int32} : am_tbl Ls xs 79 79 = some (o_iret) := (m_79 79).trans rfl
theorem t_79_80 {Ls : Nat} {xs : Nat → Int32} : am_tbl Ls xs 79 80 = some (o_aload 0 1) := (m_79 80).trans rfl
theorem t_79_81 {Ls : Nat} {xs : Nat → Int32} : am_tbl Ls xs 79 81 = some (o_get 8 2) := (m_79 81).trans rfl
theorem t_79_84 {Ls : Nat} {xs : Nat → Int32} : am_tbl Ls xs 79 84 = some (o_get 2 3) := (m_79 84).trans rfl
theorem t_79_87 {Ls : Nat} {xs : Nat → Int32} : am_tbl Ls xs 79 87 = some (o_iret) := (m_79 87).trans rfl
theorem t_79_88 {Ls : Nat} {xs : Nat → Int32} : am_tbl Ls xs 79 88 = some (o_aload 0 1) := (m_79 88).trans rfl
theorem t_79_89 {Ls : Nat} {xs : Nat → Int32} : am_tbl Ls xs 79 89 = some (o_get 8 2) := (m_79 89).trans rfl
theorem t_79_92 {Ls : Nat} {xs : Nat → Int32} : am_tbl Ls xs 79 92 = some (o_get 2 4) := (m_79 92).trans rfl
theorem t_79_95 {Ls : Nat} {xs : Nat → Int32} : am_tbl Ls xs 79 95 = some (o_iret) := (m_79 95).trans rfl
theorem t_79_96 {Ls : Nat} {xs : Nat → Int32} : am_tbl Ls xs 79 96 = some (o_aload 0 1) := (m_79 96).trans rfl
theorem t_79_97 {Ls : Nat} {xs : Nat → Int32} : am_tbl Ls xs 79 97 = some (o_get 8 0) := (m_79 97).trans rfl
theorem t_79_100 {Ls : Nat} {xs : Nat → Int32} : am_tbl Ls xs 79 100 = some (o_get 3 6) := (m_79 100).trans rfl
theorem t_79_103 {Ls : Nat} {xs : Nat → Int32} : am_tbl Ls xs 79 103 = some (o_iret) := (m_79 103).trans rfl
theorem t_79_104 {Ls : Nat} {xs : Nat → Int32} : am_tbl Ls xs 79 104 = some (o_aload 0 1) := (m_79 104).trans rfl
theorem t_79_105 {Ls : Nat} {xs : Nat → Int32} : am_tbl Ls xs 79 105 = some (o_get 8 3) := (m_79 105).trans rfl
theorem t_79_108 {Ls : Nat} {xs : Nat → Int32} : am_tbl Ls xs 79 108 = some (o_get 6 5) := (m_79 108).trans rfl
theorem t_79_111 {Ls : Nat} {xs : Nat → Int32} : am_tbl Ls xs 79 111 = some (o_iret) := (m_79 111).trans rfl
theorem t_79_112 {Ls : Nat} {xs : Nat → Int32} : am_tbl Ls xs 79 112 = some (o_aload 0 1) := (m_79 112).trans rfl
theorem t_79_113 {Ls : Nat} {xs : Nat → Int32} : am_tbl Ls xs 79 113 = some (o_get 8 3) := (m_79 113).trans rfl
theorem t_79_116 {Ls : Nat} {xs : Nat → Int32} : am_tbl Ls xs 79 116 = some (o_get 6 4) := (m_79 116).trans rfl
theorem t_79_119 {Ls : Nat} {xs : Nat → Int32} : am_tbl Ls xs 79 119 = some (o_iret) := (m_79 119).trans rfl
theorem t_79_120 {Ls : Nat} {xs : Nat → Int32} : am_tbl Ls xs 79 120 = some (o_aload 0 1) := (m_79 120).trans rfl
theorem t_79_121 {Ls : Nat} {xs : Nat → Int32} : am_tbl Ls xs 79 121 = some (o_get 8 7) := (m_79 121).trans rfl
theorem t_79_124 {Ls : Nat} {xs : Nat → Int32} : am_tbl Ls xs 79 124 = some (o_get 4 3) := (m_79 124).trans rfl
theorem t_79_127 {Ls : Nat} {xs : Nat → Int32} : am_tbl Ls xs 79 127 = some (o_iret) := (m_79 127).trans rfl
theorem t_79_128 {Ls : Nat} {xs : Nat → Int32} : am_tbl Ls xs 79 128 = some (o_aload 0 1) := (m_79 128).trans rfl
theorem t_79_129 {Ls : Nat} {xs : Nat → Int32} : am_tbl Ls xs 79 129 = some (o_get 8 8) := (m_79 129).trans rfl
theorem t_79_132 {Ls : Nat} {xs : Nat → Int32} : am_tbl Ls xs 79 132 = some (o_get 4 3) := (m_79 132).trans rfl
theorem t_79_135 {Ls : Nat} {xs : Nat → Int32} : am_tbl Ls xs 79 135 = some (o_iret) := (m_79 135).trans rfl
theorem t_79_136 {Ls : Nat} {xs : Nat → Int32} : am_tbl Ls xs 79 136 = some (o_aload 0 1) := (m_79 136).trans rfl
theorem t_79_137 {Ls : Nat} {xs : Nat → Int32} : am_tbl Ls xs 79 137 = some (o_get 8 9) := (m_79 137).trans rfl
theorem t_79_140 {Ls : Nat} {xs : Nat → Int32} : am_tbl Ls xs 79 140 = some (o_get 4 3) := (m_79 140).trans rfl
theorem t_79_143 {Ls : Nat} {xs : Nat → Int32} : am_tbl Ls xs 79 143 = some (o_iret) := (m_79 143).trans rfl
theorem t_79_144 {Ls : Nat} {xs : Nat → Int32} : am_tbl Ls xs 79 144 = some (o_aload 0 1) := (m_79 144).trans rfl
theorem t_79_145 {Ls : Nat} {xs : Nat → Int32} : am_tbl Ls xs 79 145 = some (o_get 8 10) := (m_79 145).trans rfl
theorem t_79_148 {Ls : Nat} {xs : Nat → Int32} : am_tbl Ls xs 79 148 = some (o_callv 179 0 5 3) := (m_79 148).trans rfl
theorem t_79_151 {Ls : Nat} {xs : Nat → Int32} : am_tbl Ls xs 79 151 = some (o_iret) := (m_79 151).trans rfl
theorem t_79_152 {Ls : Nat} {xs : Nat → Int32} : am_tbl Ls xs 79 152 = some (o_aload 0 1) := (m_79 152).trans rfl
theorem t_79_153 {Ls : Nat} {xs : Nat → Int32} : am_tbl Ls xs 79 153 = some (o_get 8 2) := (m_79 153).trans rfl
theorem t_79_156 {Ls : Nat} {xs : Nat → Int32} : am_tbl Ls xs 79 156 = some (o_get 2 5) := (m_79 156).trans rfl
theorem t_79_159 {Ls : Nat} {xs : Nat → Int32} : am_tbl Ls xs 79 159 = some (o_iret) := (m_79 159).trans rfl
theorem t_79_160 {Ls : Nat} {xs : Nat → Int32} : am_tbl Ls xs 79 160 = some (o_push (.int (-1000000002)) 2) := (m_79 160).trans rfl
theorem t_79_162 {Ls : Nat} {xs : Nat → Int32} : am_tbl Ls xs 79 162 = some (o_iret) := (m_79 162).trans rfl
theorem m_80 {Ls : Nat} {xs : Nat → Int32} (pc : Nat) : am_tbl Ls xs 80 pc = am_lk (op_X8_cell) pc := rfl
theorem t_80_0 {Ls : Nat} {xs : Nat → Int32} : am_tbl Ls xs 80 0 = some (o_aload 0 1) := (m_80 0).trans rfl
theorem t_80_1 {Ls : Nat} {xs : Nat → Int32} : am_tbl Ls xs 80 1 = some (o_get 8 2) := (m_80 1).trans rfl
theorem t_80_4 {Ls : Nat} {xs : Nat → Int32} : am_tbl Ls xs 80 4 = some (o_iload 1 1) := (m_80 4).trans rfl
theorem t_80_5 {Ls : Nat} {xs : Nat → Int32} : am_tbl Ls xs 80 5 = some (o_iload 2 1) := (m_80 5).trans rfl
theorem t_80_6 {Ls : Nat} {xs : Nat → Int32} : am_tbl Ls xs 80 6 = some (o_callv 137 2 2 3) := (m_80 6).trans rfl
theorem t_80_9 {Ls : Nat} {xs : Nat → Int32} : am_tbl Ls xs 80 9 = some (o_istore 5 2) := (m_80 9).trans rfl
theorem t_80_11 {Ls : Nat} {xs : Nat → Int32} : am_tbl Ls xs 80 11 = some (o_iload 5 2) := (m_80 11).trans rfl
theorem t_80_13 {Ls : Nat} {xs : Nat → Int32} : am_tbl Ls xs 80 13 = some (o_push (.int (-1)) 1) := (m_80 13).trans rfl
theorem t_80_14 {Ls : Nat} {xs : Nat → Int32} : am_tbl Ls xs 80 14 = some (o_icmp (fun x y => decide (x = y)) 28) := (m_80 14).trans rfl
theorem t_80_17 {Ls : Nat} {xs : Nat → Int32} : am_tbl Ls xs 80 17 = some (o_aload 0 1) := (m_80 17).trans rfl
theorem t_80_18 {Ls : Nat} {xs : Nat → Int32} : am_tbl Ls xs 80 18 = some (o_get 8 2) := (m_80 18).trans rfl
theorem t_80_21 {Ls : Nat} {xs : Nat → Int32} : am_tbl Ls xs 80 21 = some (o_iload 3 1) := (m_80 21).trans rfl
theorem t_80_22 {Ls : Nat} {xs : Nat → Int32} : am_tbl Ls xs 80 22 = some (o_callv 134 1 2 2) := (m_80 22).trans rfl
theorem t_80_25 {Ls : Nat} {xs : Nat → Int32} : am_tbl Ls xs 80 25 = some (o_if (fun x => decide (x ≠ 0)) 31) := (m_80 25).trans rfl
theorem t_80_28 {Ls : Nat} {xs : Nat → Int32} : am_tbl Ls xs 80 28 = some (o_nrm [] (o_push (.int (-1000000001)) 2)) := (m_80 28).trans rfl
theorem t_80_30 {Ls : Nat} {xs : Nat → Int32} : am_tbl Ls xs 80 30 = some (o_iret) := (m_80 30).trans rfl
theorem t_80_31 {Ls : Nat} {xs : Nat → Int32} : am_tbl Ls xs 80 31 = some (o_iload 4 2) := (m_80 31).trans rfl
theorem t_80_33 {Ls : Nat} {xs : Nat → Int32} : am_tbl Ls xs 80 33 = some (o_tsw 0 3 [64, 75, 94, 105] 116) := (m_80 33).trans rfl
theorem t_80_64 {Ls : Nat} {xs : Nat → Int32} : am_tbl Ls xs 80 64 = some (o_aload 0 1) := (m_80 64).trans rfl
theorem t_80_65 {Ls : Nat} {xs : Nat → Int32} : am_tbl Ls xs 80 65 = some (o_get 8 3) := (m_80 65).trans rfl
theorem t_80_68 {Ls : Nat} {xs : Nat → Int32} : am_tbl Ls xs 80 68 = some (o_get 6 3) := (m_80 68).trans rfl
theorem t_80_71 {Ls : Nat} {xs : Nat → Int32} : am_tbl Ls xs 80 71 = some (o_iload 5 2) := (m_80 71).trans rfl
theorem t_80_73 {Ls : Nat} {xs : Nat → Int32} : am_tbl Ls xs 80 73 = some (o_iald 1) := (m_80 73).trans rfl
theorem t_80_74 {Ls : Nat} {xs : Nat → Int32} : am_tbl Ls xs 80 74 = some (o_iret) := (m_80 74).trans rfl
theorem t_80_75 {Ls : Nat} {xs : Nat → Int32} : am_tbl Ls xs 80 75 = some (o_aload 0 1) := (m_80 75).trans rfl
theorem t_80_76 {Ls : Nat} {xs : Nat → Int32} : am_tbl Ls xs 80 76 = some (o_get 8 10) := (m_80 76).trans rfl
theorem t_80_79 {Ls : Nat} {xs : Nat → Int32} : am_tbl Ls xs 80 79 = some (o_iload 5 2) := (m_80 79).trans rfl
theorem t_80_81 {Ls : Nat} {xs : Nat → Int32} : am_tbl Ls xs 80 81 = some (o_iload 3 1) := (m_80 81).trans rfl
theorem t_80_82 {Ls : Nat} {xs : Nat → Int32} : am_tbl Ls xs 80 82 = some (o_callv 168 2 5 3) := (m_80 82).trans rfl
theorem t_80_85 {Ls : Nat} {xs : Nat → Int32} : am_tbl Ls xs 80 85 = some (o_if (fun x => decide (x = 0)) 92) := (m_80 85).trans rfl
theorem t_80_88 {Ls : Nat} {xs : Nat → Int32} : am_tbl Ls xs 80 88 = some (o_push (.int 1) 1) := (m_80 88).trans rfl
theorem t_80_89 {Ls : Nat} {xs : Nat → Int32} : am_tbl Ls xs 80 89 = some (o_goto 93) := (m_80 89).trans rfl
theorem t_80_92 {Ls : Nat} {xs : Nat → Int32} : am_tbl Ls xs 80 92 = some (o_push (.int 0) 1) := (m_80 92).trans rfl
theorem t_80_93 {Ls : Nat} {xs : Nat → Int32} : am_tbl Ls xs 80 93 = some (o_nrm [] (o_iret)) := (m_80 93).trans rfl
theorem t_80_94 {Ls : Nat} {xs : Nat → Int32} : am_tbl Ls xs 80 94 = some (o_aload 0 1) := (m_80 94).trans rfl
theorem t_80_95 {Ls : Nat} {xs : Nat → Int32} : am_tbl Ls xs 80 95 = some (o_get 8 10) := (m_80 95).trans rfl
theorem t_80_98 {Ls : Nat} {xs : Nat → Int32} : am_tbl Ls xs 80 98 = some (o_iload 5 2) := (m_80 98).trans rfl
theorem t_80_100 {Ls : Nat} {xs : Nat → Int32} : am_tbl Ls xs 80 100 = some (o_iload 3 1) := (m_80 100).trans rfl
theorem t_80_101 {Ls : Nat} {xs : Nat → Int32} : am_tbl Ls xs 80 101 = some (o_callv 172 2 5 5) := (m_80 101).trans rfl
theorem t_80_104 {Ls : Nat} {xs : Nat → Int32} : am_tbl Ls xs 80 104 = some (o_iret) := (m_80 104).trans rfl
theorem t_80_105 {Ls : Nat} {xs : Nat → Int32} : am_tbl Ls xs 80 105 = some (o_aload 0 1) := (m_80 105).trans rfl
theorem t_80_106 {Ls : Nat} {xs : Nat → Int32} : am_tbl Ls xs 80 106 = some (o_get 8 10) := (m_80 106).trans rfl
theorem t_80_109 {Ls : Nat} {xs : Nat → Int32} : am_tbl Ls xs 80 109 = some (o_iload 5 2) := (m_80 109).trans rfl
theorem t_80_111 {Ls : Nat} {xs : Nat → Int32} : am_tbl Ls xs 80 111 = some (o_iload 3 1) := (m_80 111).trans rfl
theorem t_80_112 {Ls : Nat} {xs : Nat → Int32} : am_tbl Ls xs 80 112 = some (o_callv 173 2 5 4) := (m_80 112).trans rfl
theorem t_80_115 {Ls : Nat} {xs : Nat → Int32} : am_tbl Ls xs 80 115 = some (o_iret) := (m_80 115).trans rfl
theorem t_80_116 {Ls : Nat} {xs : Nat → Int32} : am_tbl Ls xs 80 116 = some (o_push (.int (-1000000002)) 2) := (m_80 116).trans rfl
theorem t_80_118 {Ls : Nat} {xs : Nat → Int32} : am_tbl Ls xs 80 118 = some (o_iret) := (m_80 118).trans rfl
theorem m_81 {Ls : Nat} {xs : Nat → Int32} (pc : Nat) : am_tbl Ls xs 81 pc = am_lk (op_X8_person) pc := rfl
theorem t_81_0 {Ls : Nat} {xs : Nat → Int32} : am_tbl Ls xs 81 0 = some (o_aload 0 1) := (m_81 0).trans rfl
theorem t_81_1 {Ls : Nat} {xs : Nat → Int32} : am_tbl Ls xs 81 1 = some (o_get 8 2) := (m_81 1).trans rfl
theorem t_81_4 {Ls : Nat} {xs : Nat → Int32} : am_tbl Ls xs 81 4 = some (o_iload 1 1) := (m_81 4).trans rfl
theorem t_81_5 {Ls : Nat} {xs : Nat → Int32} : am_tbl Ls xs 81 5 = some (o_callv 135 1 2 2) := (m_81 5).trans rfl
theorem t_81_8 {Ls : Nat} {xs : Nat → Int32} : am_tbl Ls xs 81 8 = some (o_if (fun x => decide (x ≠ 0)) 14) := (m_81 8).trans rfl
theorem t_81_11 {Ls : Nat} {xs : Nat → Int32} : am_tbl Ls xs 81 11 = some (o_push (.int (-1000000001)) 2) := (m_81 11).trans rfl
theorem t_81_13 {Ls : Nat} {xs : Nat → Int32} : am_tbl Ls xs 81 13 = some (o_iret) := (m_81 13).trans rfl
theorem t_81_14 {Ls : Nat} {xs : Nat → Int32} : am_tbl Ls xs 81 14 = some (o_iload 2 1) := (m_81 14).trans rfl
theorem t_81_15 {Ls : Nat} {xs : Nat → Int32} : am_tbl Ls xs 81 15 = some (o_tsw 0 6 [56, 73, 90, 99, 109, 119, 128] 146) := (m_81 15).trans rfl
theorem t_81_56 {Ls : Nat} {xs : Nat → Int32} : am_tbl Ls xs 81 56 = some (o_aload 0 1) := (m_81 56).trans rfl
theorem t_81_57 {Ls : Nat} {xs : Nat → Int32} : am_tbl Ls xs 81 57 = some (o_get 8 2) := (m_81 57).trans rfl
theorem t_81_60 {Ls : Nat} {xs : Nat → Int32} : am_tbl Ls xs 81 60 = some (o_aload 0 1) := (m_81 60).trans rfl
theorem t_81_61 {Ls : Nat} {xs : Nat → Int32} : am_tbl Ls xs 81 61 = some (o_get 8 3) := (m_81 61).trans rfl
theorem t_81_64 {Ls : Nat} {xs : Nat → Int32} : am_tbl Ls xs 81 64 = some (o_get 6 0) := (m_81 64).trans rfl
theorem t_81_67 {Ls : Nat} {xs : Nat → Int32} : am_tbl Ls xs 81 67 = some (o_iload 1 1) := (m_81 67).trans rfl
theorem t_81_68 {Ls : Nat} {xs : Nat → Int32} : am_tbl Ls xs 81 68 = some (o_iald 1) := (m_81 68).trans rfl
theorem t_81_69 {Ls : Nat} {xs : Nat → Int32} : am_tbl Ls xs 81 69 = some (o_callv 138 1 2 2) := (m_81 69).trans rfl
theorem t_81_72 {Ls : Nat} {xs : Nat → Int32} : am_tbl Ls xs 81 72 = some (o_iret) := (m_81 72).trans rfl
theorem t_81_73 {Ls : Nat} {xs : Nat → Int32} : am_tbl Ls xs 81 73 = some (o_aload 0 1) := (m_81 73).trans rfl
theorem t_81_74 {Ls : Nat} {xs : Nat → Int32} : am_tbl Ls xs 81 74 = some (o_get 8 2) := (m_81 74).trans rfl
theorem t_81_77 {Ls : Nat} {xs : Nat → Int32} : am_tbl Ls xs 81 77 = some (o_aload 0 1) := (m_81 77).trans rfl
theorem t_81_78 {Ls : Nat} {xs : Nat → Int32} : am_tbl Ls xs 81 78 = some (o_get 8 3) := (m_81 78).trans rfl
theorem t_81_81 {Ls : Nat} {xs : Nat → Int32} : am_tbl Ls xs 81 81 = some (o_get 6 0) := (m_81 81).trans rfl
theorem t_81_84 {Ls : Nat} {xs : Nat → Int32} : am_tbl Ls xs 81 84 = some (o_iload 1 1) := (m_81 84).trans rfl
theorem t_81_85 {Ls : Nat} {xs : Nat → Int32} : am_tbl Ls xs 81 85 = some (o_iald 1) := (m_81 85).trans rfl
theorem t_81_86 {Ls : Nat} {xs : Nat → Int32} : am_tbl Ls xs 81 86 = some (o_callv 139 1 2 2) := (m_81 86).trans rfl
theorem t_81_89 {Ls : Nat} {xs : Nat → Int32} : am_tbl Ls xs 81 89 = some (o_iret) := (m_81 89).trans rfl
theorem t_81_90 {Ls : Nat} {xs : Nat → Int32} : am_tbl Ls xs 81 90 = some (o_aload 0 1) := (m_81 90).trans rfl
theorem t_81_91 {Ls : Nat} {xs : Nat → Int32} : am_tbl Ls xs 81 91 = some (o_get 8 10) := (m_81 91).trans rfl
theorem t_81_94 {Ls : Nat} {xs : Nat → Int32} : am_tbl Ls xs 81 94 = some (o_iload 1 1) := (m_81 94).trans rfl
theorem t_81_95 {Ls : Nat} {xs : Nat → Int32} : am_tbl Ls xs 81 95 = some (o_callv 170 1 5 2) := (m_81 95).trans rfl
theorem t_81_98 {Ls : Nat} {xs : Nat → Int32} : am_tbl Ls xs 81 98 = some (o_iret) := (m_81 98).trans rfl
theorem t_81_99 {Ls : Nat} {xs : Nat → Int32} : am_tbl Ls xs 81 99 = some (o_aload 0 1) := (m_81 99).trans rfl
theorem t_81_100 {Ls : Nat} {xs : Nat → Int32} : am_tbl Ls xs 81 100 = some (o_get 8 3) := (m_81 100).trans rfl
theorem t_81_103 {Ls : Nat} {xs : Nat → Int32} : am_tbl Ls xs 81 103 = some (o_get 6 1) := (m_81 103).trans rfl
theorem t_81_106 {Ls : Nat} {xs : Nat → Int32} : am_tbl Ls xs 81 106 = some (o_iload 1 1) := (m_81 106).trans rfl
theorem t_81_107 {Ls : Nat} {xs : Nat → Int32} : am_tbl Ls xs 81 107 = some (o_iald 1) := (m_81 107).trans rfl
theorem t_81_108 {Ls : Nat} {xs : Nat → Int32} : am_tbl Ls xs 81 108 = some (o_iret) := (m_81 108).trans rfl
theorem t_81_109 {Ls : Nat} {xs : Nat → Int32} : am_tbl Ls xs 81 109 = some (o_aload 0 1) := (m_81 109).trans rfl
theorem t_81_110 {Ls : Nat} {xs : Nat → Int32} : am_tbl Ls xs 81 110 = some (o_get 8 3) := (m_81 110).trans rfl
theorem t_81_113 {Ls : Nat} {xs : Nat → Int32} : am_tbl Ls xs 81 113 = some (o_get 6 2) := (m_81 113).trans rfl
theorem t_81_116 {Ls : Nat} {xs : Nat → Int32} : am_tbl Ls xs 81 116 = some (o_iload 1 1) := (m_81 116).trans rfl
theorem t_81_117 {Ls : Nat} {xs : Nat → Int32} : am_tbl Ls xs 81 117 = some (o_iald 1) := (m_81 117).trans rfl
theorem t_81_118 {Ls : Nat} {xs : Nat → Int32} : am_tbl Ls xs 81 118 = some (o_iret) := (m_81 118).trans rfl
theorem t_81_119 {Ls : Nat} {xs : Nat → Int32} : am_tbl Ls xs 81 119 = some (o_aload 0 1) := (m_81 119).trans rfl
theorem t_81_120 {Ls : Nat} {xs : Nat → Int32} : am_tbl Ls xs 81 120 = some (o_get 8 10) := (m_81 120).trans rfl
theorem t_81_123 {Ls : Nat} {xs : Nat → Int32} : am_tbl Ls xs 81 123 = some (o_iload 1 1) := (m_81 123).trans rfl
theorem t_81_124 {Ls : Nat} {xs : Nat → Int32} : am_tbl Ls xs 81 124 = some (o_callv 178 1 5 2) := (m_81 124).trans rfl
theorem t_81_127 {Ls : Nat} {xs : Nat → Int32} : am_tbl Ls xs 81 127 = some (o_iret) := (m_81 127).trans rfl
theorem t_81_128 {Ls : Nat} {xs : Nat → Int32} : am_tbl Ls xs 81 128 = some (o_aload 0 1) := (m_81 128).trans rfl
theorem t_81_129 {Ls : Nat} {xs : Nat → Int32} : am_tbl Ls xs 81 129 = some (o_get 8 10) := (m_81 129).trans rfl
theorem t_81_132 {Ls : Nat} {xs : Nat → Int32} : am_tbl Ls xs 81 132 = some (o_iload 1 1) := (m_81 132).trans rfl
theorem t_81_133 {Ls : Nat} {xs : Nat → Int32} : am_tbl Ls xs 81 133 = some (o_aload 0 1) := (m_81 133).trans rfl
theorem t_81_134 {Ls : Nat} {xs : Nat → Int32} : am_tbl Ls xs 81 134 = some (o_get 8 3) := (m_81 134).trans rfl
theorem t_81_137 {Ls : Nat} {xs : Nat → Int32} : am_tbl Ls xs 81 137 = some (o_get 6 0) := (m_81 137).trans rfl
theorem t_81_140 {Ls : Nat} {xs : Nat → Int32} : am_tbl Ls xs 81 140 = some (o_iload 1 1) := (m_81 140).trans rfl
theorem t_81_141 {Ls : Nat} {xs : Nat → Int32} : am_tbl Ls xs 81 141 = some (o_iald 1) := (m_81 141).trans rfl
theorem t_81_142 {Ls : Nat} {xs : Nat → Int32} : am_tbl Ls xs 81 142 = some (o_callv 180 2 5 5) := (m_81 142).trans rfl
theorem t_81_145 {Ls : Nat} {xs : Nat → Int32} : am_tbl Ls xs 81 145 = some (o_iret) := (m_81 145).trans rfl
theorem t_81_146 {Ls : Nat} {xs : Nat → Int32} : am_tbl Ls xs 81 146 = some (o_push (.int (-1000000002)) 2) := (m_81 146).trans rfl
theorem t_81_148 {Ls : Nat} {xs : Nat → Int32} : am_tbl Ls xs 81 148 = some (o_iret) := (m_81 148).trans rfl
theorem m_82 {Ls : Nat} {xs : Nat → Int32} (pc : Nat) : am_tbl Ls xs 82 pc = am_lk (op_X8_owed) pc := rfl
theorem t_82_0 {Ls : Nat} {xs : Nat → Int32} : am_tbl Ls xs 82 0 = some (o_aload 0 1) := (m_82 0).trans rfl
theorem t_82_1 {Ls : Nat} {xs : Nat → Int32} : am_tbl Ls xs 82 1 = some (o_get 8 2) := (m_82 1).trans rfl
theorem t_82_4 {Ls : Nat} {xs : Nat → Int32} : am_tbl Ls xs 82 4 = some (o_iload 1 1) := (m_82 4).trans rfl
theorem t_82_5 {Ls : Nat} {xs : Nat → Int32} : am_tbl Ls xs 82 5 = some (o_callv 135 1 2 2) := (m_82 5).trans rfl
theorem t_82_8 {Ls : Nat} {xs : Nat → Int32} : am_tbl Ls xs 82 8 = some (o_if (fun x => decide (x = 0)) 22) := (m_82 8).trans rfl
theorem t_82_11 {Ls : Nat} {xs : Nat → Int32} : am_tbl Ls xs 82 11 = some (o_aload 0 1) := (m_82 11).trans rfl
theorem t_82_12 {Ls : Nat} {xs : Nat → Int32} : am_tbl Ls xs 82 12 = some (o_get 8 2) := (m_82 12).trans rfl
theorem t_82_15 {Ls : Nat} {xs : Nat → Int32} : am_tbl Ls xs 82 15 = some (o_iload 2 1) := (m_82 15).trans rfl
theorem t_82_16 {Ls : Nat} {xs : Nat → Int32} : am_tbl Ls xs 82 16 = some (o_callv 134 1 2 2) := (m_82 16).trans rfl
theorem t_82_19 {Ls : Nat} {xs : Nat → Int32} : am_tbl Ls xs 82 19 = some (o_if (fun x => decide (x ≠ 0)) 25) := (m_82 19).trans rfl
theorem t_82_22 {Ls : Nat} {xs : Nat → Int32} : am_tbl Ls xs 82 22 = some (o_nrm [] (o_push (.int (-1000000001)) 2)) := (m_82 22).trans rfl
theorem t_82_24 {Ls : Nat} {xs : Nat → Int32} : am_tbl Ls xs 82 24 = some (o_iret) := (m_82 24).trans rfl
theorem t_82_25 {Ls : Nat} {xs : Nat → Int32} : am_tbl Ls xs 82 25 = some (o_aload 0 1) := (m_82 25).trans rfl
theorem t_82_26 {Ls : Nat} {xs : Nat → Int32} : am_tbl Ls xs 82 26 = some (o_get 8 10) := (m_82 26).trans rfl
theorem t_82_29 {Ls : Nat} {xs : Nat → Int32} : am_tbl Ls xs 82 29 = some (o_iload 1 1) := (m_82 29).trans rfl
theorem t_82_30 {Ls : Nat} {xs : Nat → Int32} : am_tbl Ls xs 82 30 = some (o_aload 0 1) := (m_82 30).trans rfl
theorem t_82_31 {Ls : Nat} {xs : Nat → Int32} : am_tbl Ls xs 82 31 = some (o_get 8 3) := (m_82 31).trans rfl
theorem t_82_34 {Ls : Nat} {xs : Nat → Int32} : am_tbl Ls xs 82 34 = some (o_get 6 0) := (m_82 34).trans rfl
theorem t_82_37 {Ls : Nat} {xs : Nat → Int32} : am_tbl Ls xs 82 37 = some (o_iload 1 1) := (m_82 37).trans rfl
theorem t_82_38 {Ls : Nat} {xs : Nat → Int32} : am_tbl Ls xs 82 38 = some (o_iald 1) := (m_82 38).trans rfl
theorem t_82_39 {Ls : Nat} {xs : Nat → Int32} : am_tbl Ls xs 82 39 = some (o_iload 2 1) := (m_82 39).trans rfl
theorem t_82_40 {Ls : Nat} {xs : Nat → Int32} : am_tbl Ls xs 82 40 = some (o_callv 176 3 5 4) := (m_82 40).trans rfl
theorem t_82_43 {Ls : Nat} {xs : Nat → Int32} : am_tbl Ls xs 82 43 = some (o_iret) := (m_82 43).trans rfl
theorem m_83 {Ls : Nat} {xs : Nat → Int32} (pc : Nat) : am_tbl Ls xs 83 pc = am_lk (op_X8_go) pc := rfl
theorem t_83_0 {Ls : Nat} {xs : Nat → Int32} : am_tbl Ls xs 83 0 = some (o_aload 0 1) := (m_83 0).trans rfl
theorem t_83_1 {Ls : Nat} {xs : Nat → Int32} : am_tbl Ls xs 83 1 = some (o_get 8 2) := (m_83 1).trans rfl
theorem t_83_4 {Ls : Nat} {xs : Nat → Int32} : am_tbl Ls xs 83 4 = some (o_iload 2 1) := (m_83 4).trans rfl
theorem t_83_5 {Ls : Nat} {xs : Nat → Int32} : am_tbl Ls xs 83 5 = some (o_iload 3 1) := (m_83 5).trans rfl
theorem t_83_6 {Ls : Nat} {xs : Nat → Int32} : am_tbl Ls xs 83 6 = some (o_callv 137 2 2 3) := (m_83 6).trans rfl
theorem t_83_9 {Ls : Nat} {xs : Nat → Int32} : am_tbl Ls xs 83 9 = some (o_istore 4 2) := (m_83 9).trans rfl
theorem t_83_11 {Ls : Nat} {xs : Nat → Int32} : am_tbl Ls xs 83 11 = some (o_aload 0 1) := (m_83 11).trans rfl
theorem t_83_12 {Ls : Nat} {xs : Nat → Int32} : am_tbl Ls xs 83 12 = some (o_get 8 2) := (m_83 12).trans rfl
theorem t_83_15 {Ls : Nat} {xs : Nat → Int32} : am_tbl Ls xs 83 15 = some (o_iload 1 1) := (m_83 15).trans rfl
theorem t_83_16 {Ls : Nat} {xs : Nat → Int32} : am_tbl Ls xs 83 16 = some (o_callv 135 1 2 2) := (m_83 16).trans rfl
theorem t_83_19 {Ls : Nat} {xs : Nat → Int32} : am_tbl Ls xs 83 19 = some (o_if (fun x => decide (x = 0)) 28) := (m_83 19).trans rfl
theorem t_83_22 {Ls : Nat} {xs : Nat → Int32} : am_tbl Ls xs 83 22 = some (o_iload 4 2) := (m_83 22).trans rfl
theorem t_83_24 {Ls : Nat} {xs : Nat → Int32} : am_tbl Ls xs 83 24 = some (o_push (.int (-1)) 1) := (m_83 24).trans rfl
theorem t_83_25 {Ls : Nat} {xs : Nat → Int32} : am_tbl Ls xs 83 25 = some (o_icmp (fun x y => decide (x ≠ y)) 31) := (m_83 25).trans rfl
theorem t_83_28 {Ls : Nat} {xs : Nat → Int32} : am_tbl Ls xs 83 28 = some (o_nrm [] (o_push (.int (-1000000001)) 2)) := (m_83 28).trans rfl
theorem t_83_30 {Ls : Nat} {xs : Nat → Int32} : am_tbl Ls xs 83 30 = some (o_iret) := (m_83 30).trans rfl
theorem t_83_31 {Ls : Nat} {xs : Nat → Int32} : am_tbl Ls xs 83 31 = some (o_aload 0 1) := (m_83 31).trans rfl
theorem t_83_32 {Ls : Nat} {xs : Nat → Int32} : am_tbl Ls xs 83 32 = some (o_get 8 3) := (m_83 32).trans rfl
theorem t_83_35 {Ls : Nat} {xs : Nat → Int32} : am_tbl Ls xs 83 35 = some (o_get 6 3) := (m_83 35).trans rfl
theorem t_83_38 {Ls : Nat} {xs : Nat → Int32} : am_tbl Ls xs 83 38 = some (o_iload 4 2) := (m_83 38).trans rfl
theorem t_83_40 {Ls : Nat} {xs : Nat → Int32} : am_tbl Ls xs 83 40 = some (o_iald 1) := (m_83 40).trans rfl
theorem t_83_41 {Ls : Nat} {xs : Nat → Int32} : am_tbl Ls xs 83 41 = some (o_if (fun x => decide (x ≤ 0)) 47) := (m_83 41).trans rfl
theorem t_83_44 {Ls : Nat} {xs : Nat → Int32} : am_tbl Ls xs 83 44 = some (o_push (.int (-1000000003)) 2) := (m_83 44).trans rfl
theorem t_83_46 {Ls : Nat} {xs : Nat → Int32} : am_tbl Ls xs 83 46 = some (o_iret) := (m_83 46).trans rfl
theorem t_83_47 {Ls : Nat} {xs : Nat → Int32} : am_tbl Ls xs 83 47 = some (o_aload 0 1) := (m_83 47).trans rfl
theorem t_83_48 {Ls : Nat} {xs : Nat → Int32} : am_tbl Ls xs 83 48 = some (o_get 8 3) := (m_83 48).trans rfl
theorem t_83_51 {Ls : Nat} {xs : Nat → Int32} : am_tbl Ls xs 83 51 = some (o_get 6 0) := (m_83 51).trans rfl
theorem t_83_54 {Ls : Nat} {xs : Nat → Int32} : am_tbl Ls xs 83 54 = some (o_iload 1 1) := (m_83 54).trans rfl
theorem t_83_55 {Ls : Nat} {xs : Nat → Int32} : am_tbl Ls xs 83 55 = some (o_iald 1) := (m_83 55).trans rfl
theorem t_83_56 {Ls : Nat} {xs : Nat → Int32} : am_tbl Ls xs 83 56 = some (o_istore 5 2) := (m_83 56).trans rfl
theorem t_83_58 {Ls : Nat} {xs : Nat → Int32} : am_tbl Ls xs 83 58 = some (o_aload 0 1) := (m_83 58).trans rfl
theorem t_83_59 {Ls : Nat} {xs : Nat → Int32} : am_tbl Ls xs 83 59 = some (o_get 8 3) := (m_83 59).trans rfl
theorem t_83_62 {Ls : Nat} {xs : Nat → Int32} : am_tbl Ls xs 83 62 = some (o_get 6 0) := (m_83 62).trans rfl
theorem t_83_65 {Ls : Nat} {xs : Nat → Int32} : am_tbl Ls xs 83 65 = some (o_iload 1 1) := (m_83 65).trans rfl
theorem t_83_66 {Ls : Nat} {xs : Nat → Int32} : am_tbl Ls xs 83 66 = some (o_iload 4 2) := (m_83 66).trans rfl
theorem t_83_68 {Ls : Nat} {xs : Nat → Int32} : am_tbl Ls xs 83 68 = some (o_iast 1 (fun x => x)) := (m_83 68).trans rfl
theorem t_83_69 {Ls : Nat} {xs : Nat → Int32} : am_tbl Ls xs 83 69 = some (o_aload 0 1) := (m_83 69).trans rfl
theorem t_83_70 {Ls : Nat} {xs : Nat → Int32} : am_tbl Ls xs 83 70 = some (o_get 8 2) := (m_83 70).trans rfl
theorem t_83_73 {Ls : Nat} {xs : Nat → Int32} : am_tbl Ls xs 83 73 = some (o_iload 5 2) := (m_83 73).trans rfl
theorem t_83_75 {Ls : Nat} {xs : Nat → Int32} : am_tbl Ls xs 83 75 = some (o_callv 140 1 2 2) := (m_83 75).trans rfl
theorem t_83_78 {Ls : Nat} {xs : Nat → Int32} : am_tbl Ls xs 83 78 = some (o_iret) := (m_83 78).trans rfl
theorem m_84 {Ls : Nat} {xs : Nat → Int32} (pc : Nat) : am_tbl Ls xs 84 pc = am_lk (op_X8_fold) pc := rfl
theorem t_84_0 {Ls : Nat} {xs : Nat → Int32} : am_tbl Ls xs 84 0 = some (o_aload 0 1) := (m_84 0).trans rfl
theorem t_84_1 {Ls : Nat} {xs : Nat → Int32} : am_tbl Ls xs 84 1 = some (o_get 8 2) := (m_84 1).trans rfl
theorem t_84_4 {Ls : Nat} {xs : Nat → Int32} : am_tbl Ls xs 84 4 = some (o_iload 1 1) := (m_84 4).trans rfl
theorem t_84_5 {Ls : Nat} {xs : Nat → Int32} : am_tbl Ls xs 84 5 = some (o_callv 135 1 2 2) := (m_84 5).trans rfl
theorem t_84_8 {Ls : Nat} {xs : Nat → Int32} : am_tbl Ls xs 84 8 = some (o_if (fun x => decide (x ≠ 0)) 14) := (m_84 8).trans rfl
theorem t_84_11 {Ls : Nat} {xs : Nat → Int32} : am_tbl Ls xs 84 11 = some (o_push (.int (-1000000001)) 2) := (m_84 11).trans rfl
theorem t_84_13 {Ls : Nat} {xs : Nat → Int32} : am_tbl Ls xs 84 13 = some (o_iret) := (m_84 13).trans rfl
theorem t_84_14 {Ls : Nat} {xs : Nat → Int32} : am_tbl Ls xs 84 14 = some (o_aload 0 1) := (m_84 14).trans rfl
theorem t_84_15 {Ls : Nat} {xs : Nat → Int32} : am_tbl Ls xs 84 15 = some (o_get 8 3) := (m_84 15).trans rfl
theorem t_84_18 {Ls : Nat} {xs : Nat → Int32} : am_tbl Ls xs 84 18 = some (o_get 6 1) := (m_84 18).trans rfl
theorem t_84_21 {Ls : Nat} {xs : Nat → Int32} : am_tbl Ls xs 84 21 = some (o_iload 1 1) := (m_84 21).trans rfl
theorem t_84_22 {Ls : Nat} {xs : Nat → Int32} : am_tbl Ls xs 84 22 = some (o_iald 1) := (m_84 22).trans rfl
theorem t_84_23 {Ls : Nat} {xs : Nat → Int32} : am_tbl Ls xs 84 23 = some (o_istore 3 1) := (m_84 23).trans rfl
theorem t_84_24 {Ls : Nat} {xs : Nat → Int32} : am_tbl Ls xs 84 24 = some (o_aload 0 1) := (m_84 24).trans rfl
theorem t_84_25 {Ls : Nat} {xs : Nat → Int32} : am_tbl Ls xs 84 25 = some (o_get 8 3) := (m_84 25).trans rfl
theorem t_84_28 {Ls : Nat} {xs : Nat → Int32} : am_tbl Ls xs 84 28 = some (o_get 6 1) := (m_84 28).trans rfl
theorem t_84_31 {Ls : Nat} {xs : Nat → Int32} : am_tbl Ls xs 84 31 = some (o_iload 1 1) := (m_84 31).trans rfl
theorem t_84_32 {Ls : Nat} {xs : Nat → Int32} : am_tbl Ls xs 84 32 = some (o_iload 2 1) := (m_84 32).trans rfl
theorem t_84_33 {Ls : Nat} {xs : Nat → Int32} : am_tbl Ls xs 84 33 = some (o_if (fun x => decide (x = 0)) 40) := (m_84 33).trans rfl
theorem t_84_36 {Ls : Nat} {xs : Nat → Int32} : am_tbl Ls xs 84 36 = some (o_push (.int 1) 1) := (m_84 36).trans rfl
theorem t_84_37 {Ls : Nat} {xs : Nat → Int32} : am_tbl Ls xs 84 37 = some (o_goto 41) := (m_84 37).trans rfl
theorem t_84_40 {Ls : Nat} {xs : Nat → Int32} : am_tbl Ls xs 84 40 = some (o_push (.int 0) 1) := (m_84 40).trans rfl
theorem t_84_41 {Ls : Nat} {xs : Nat → Int32} : am_tbl Ls xs 84 41 = some (o_nrm [3] (o_iast 1 (fun x => x))) := (m_84 41).trans rfl
theorem t_84_42 {Ls : Nat} {xs : Nat → Int32} : am_tbl Ls xs 84 42 = some (o_iload 3 1) := (m_84 42).trans rfl
theorem t_84_43 {Ls : Nat} {xs : Nat → Int32} : am_tbl Ls xs 84 43 = some (o_iret) := (m_84 43).trans rfl
theorem m_85 {Ls : Nat} {xs : Nat → Int32} (pc : Nat) : am_tbl Ls xs 85 pc = am_lk (op_X8_law) pc := rfl
theorem t_85_0 {Ls : Nat} {xs : Nat → Int32} : am_tbl Ls xs 85 0 = some (o_iload 1 1) := (m_85 0).trans rfl
theorem t_85_1 {Ls : Nat} {xs : Nat → Int32} : am_tbl Ls xs 85 1 = some (o_if (fun x => decide (x < 0)) 9) := (m_85 1).trans rfl
theorem t_85_4 {Ls : Nat} {xs : Nat → Int32} : am_tbl Ls xs 85 4 = some (o_iload 1 1) := (m_85 4).trans rfl
theorem t_85_5 {Ls : Nat} {xs : Nat → Int32} : am_tbl Ls xs 85 5 = some (o_push (.int 1) 1) := (m_85 5).trans rfl
theorem t_85_6 {Ls : Nat} {xs : Nat → Int32} : am_tbl Ls xs 85 6 = some (o_icmp (fun x y => decide (x ≤ y)) 12) := (m_85 6).trans rfl
theorem t_85_9 {Ls : Nat} {xs : Nat → Int32} : am_tbl Ls xs 85 9 = some (o_nrm [] (o_push (.int (-1000000002)) 2)) := (m_85 9).trans rfl
theorem t_85_11 {Ls : Nat} {xs : Nat → Int32} : am_tbl Ls xs 85 11 = some (o_iret) := (m_85 11).trans rfl
theorem t_85_12 {Ls : Nat} {xs : Nat → Int32} : am_tbl Ls xs 85 12 = some (o_aload 0 1) := (m_85 12).trans rfl
theorem t_85_13 {Ls : Nat} {xs : Nat → Int32} : am_tbl Ls xs 85 13 = some (o_get 8 3) := (m_85 13).trans rfl
theorem t_85_16 {Ls : Nat} {xs : Nat → Int32} : am_tbl Ls xs 85 16 = some (o_get 6 5) := (m_85 16).trans rfl
theorem t_85_19 {Ls : Nat} {xs : Nat → Int32} : am_tbl Ls xs 85 19 = some (o_istore 2 1) := (m_85 19).trans rfl
theorem t_85_20 {Ls : Nat} {xs : Nat → Int32} : am_tbl Ls xs 85 20 = some (o_aload 0 1) := (m_85 20).trans rfl
theorem t_85_21 {Ls : Nat} {xs : Nat → Int32} : am_tbl Ls xs 85 21 = some (o_get 8 3) := (m_85 21).trans rfl
theorem t_85_24 {Ls : Nat} {xs : Nat → Int32} : am_tbl Ls xs 85 24 = some (o_iload 1 1) := (m_85 24).trans rfl
theorem t_85_25 {Ls : Nat} {xs : Nat → Int32} : am_tbl Ls xs 85 25 = some (o_puti 6 5) := (m_85 25).trans rfl
theorem t_85_28 {Ls : Nat} {xs : Nat → Int32} : am_tbl Ls xs 85 28 = some (o_iload 2 1) := (m_85 28).trans rfl
theorem t_85_29 {Ls : Nat} {xs : Nat → Int32} : am_tbl Ls xs 85 29 = some (o_iret) := (m_85 29).trans rfl
theorem m_86 {Ls : Nat} {xs : Nat → Int32} (pc : Nat) : am_tbl Ls xs 86 pc = am_lk (op_X8_build) pc := rfl
theorem t_86_0 {Ls : Nat} {xs : Nat → Int32} : am_tbl Ls xs 86 0 = some (o_aload 0 1) := (m_86 0).trans rfl
theorem t_86_1 {Ls : Nat} {xs : Nat → Int32} : am_tbl Ls xs 86 1 = some (o_get 8 2) := (m_86 1).trans rfl
theorem t_86_4 {Ls : Nat} {xs : Nat → Int32} : am_tbl Ls xs 86 4 = some (o_iload 1 1) := (m_86 4).trans rfl
theorem t_86_5 {Ls : Nat} {xs : Nat → Int32} : am_tbl Ls xs 86 5 = some (o_iload 2 1) := (m_86 5).trans rfl
theorem t_86_6 {Ls : Nat} {xs : Nat → Int32} : am_tbl Ls xs 86 6 = some (o_callv 137 2 2 3) := (m_86 6).trans rfl
theorem t_86_9 {Ls : Nat} {xs : Nat → Int32} : am_tbl Ls xs 86 9 = some (o_istore 4 2) := (m_86 9).trans rfl
theorem t_86_11 {Ls : Nat} {xs : Nat → Int32} : am_tbl Ls xs 86 11 = some (o_iload 4 2) := (m_86 11).trans rfl
theorem t_86_13 {Ls : Nat} {xs : Nat → Int32} : am_tbl Ls xs 86 13 = some (o_push (.int (-1)) 1) := (m_86 13).trans rfl
theorem t_86_14 {Ls : Nat} {xs : Nat → Int32} : am_tbl Ls xs 86 14 = some (o_icmp (fun x y => decide (x ≠ y)) 20) := (m_86 14).trans rfl
theorem t_86_17 {Ls : Nat} {xs : Nat → Int32} : am_tbl Ls xs 86 17 = some (o_push (.int (-1000000001)) 2) := (m_86 17).trans rfl
theorem t_86_19 {Ls : Nat} {xs : Nat → Int32} : am_tbl Ls xs 86 19 = some (o_iret) := (m_86 19).trans rfl
theorem t_86_20 {Ls : Nat} {xs : Nat → Int32} : am_tbl Ls xs 86 20 = some (o_iload 3 1) := (m_86 20).trans rfl
theorem t_86_21 {Ls : Nat} {xs : Nat → Int32} : am_tbl Ls xs 86 21 = some (o_if (fun x => decide (x < 0)) 30) := (m_86 21).trans rfl
theorem t_86_24 {Ls : Nat} {xs : Nat → Int32} : am_tbl Ls xs 86 24 = some (o_iload 3 1) := (m_86 24).trans rfl
theorem t_86_25 {Ls : Nat} {xs : Nat → Int32} : am_tbl Ls xs 86 25 = some (o_push (.int 9) 2) := (m_86 25).trans rfl
theorem t_86_27 {Ls : Nat} {xs : Nat → Int32} : am_tbl Ls xs 86 27 = some (o_icmp (fun x y => decide (x ≤ y)) 33) := (m_86 27).trans rfl
theorem t_86_30 {Ls : Nat} {xs : Nat → Int32} : am_tbl Ls xs 86 30 = some (o_nrm [] (o_push (.int (-1000000002)) 2)) := (m_86 30).trans rfl
theorem t_86_32 {Ls : Nat} {xs : Nat → Int32} : am_tbl Ls xs 86 32 = some (o_iret) := (m_86 32).trans rfl
theorem t_86_33 {Ls : Nat} {xs : Nat → Int32} : am_tbl Ls xs 86 33 = some (o_iload 3 1) := (m_86 33).trans rfl
theorem t_86_34 {Ls : Nat} {xs : Nat → Int32} : am_tbl Ls xs 86 34 = some (o_if (fun x => decide (x ≤ 0)) 52) := (m_86 34).trans rfl
theorem t_86_37 {Ls : Nat} {xs : Nat → Int32} : am_tbl Ls xs 86 37 = some (o_aload 0 1) := (m_86 37).trans rfl
theorem t_86_38 {Ls : Nat} {xs : Nat → Int32} : am_tbl Ls xs 86 38 = some (o_get 8 10) := (m_86 38).trans rfl
theorem t_86_41 {Ls : Nat} {xs : Nat → Int32} : am_tbl Ls xs 86 41 = some (o_iload 4 2) := (m_86 41).trans rfl
theorem t_86_43 {Ls : Nat} {xs : Nat → Int32} : am_tbl Ls xs 86 43 = some (o_callv 171 1 5 3) := (m_86 43).trans rfl
theorem t_86_46 {Ls : Nat} {xs : Nat → Int32} : am_tbl Ls xs 86 46 = some (o_if (fun x => decide (x = 0)) 52) := (m_86 46).trans rfl
theorem t_86_49 {Ls : Nat} {xs : Nat → Int32} : am_tbl Ls xs 86 49 = some (o_push (.int (-1000000003)) 2) := (m_86 49).trans rfl
theorem t_86_51 {Ls : Nat} {xs : Nat → Int32} : am_tbl Ls xs 86 51 = some (o_iret) := (m_86 51).trans rfl
theorem t_86_52 {Ls : Nat} {xs : Nat → Int32} : am_tbl Ls xs 86 52 = some (o_nrm [0, 3, 4] (o_aload 0 1)) := (m_86 52).trans rfl
theorem t_86_53 {Ls : Nat} {xs : Nat → Int32} : am_tbl Ls xs 86 53 = some (o_get 8 3) := (m_86 53).trans rfl
theorem t_86_56 {Ls : Nat} {xs : Nat → Int32} : am_tbl Ls xs 86 56 = some (o_get 6 3) := (m_86 56).trans rfl
theorem t_86_59 {Ls : Nat} {xs : Nat → Int32} : am_tbl Ls xs 86 59 = some (o_iload 4 2) := (m_86 59).trans rfl
theorem t_86_61 {Ls : Nat} {xs : Nat → Int32} : am_tbl Ls xs 86 61 = some (o_iald 1) := (m_86 61).trans rfl
theorem t_86_62 {Ls : Nat} {xs : Nat → Int32} : am_tbl Ls xs 86 62 = some (o_istore 5 2) := (m_86 62).trans rfl
theorem t_86_64 {Ls : Nat} {xs : Nat → Int32} : am_tbl Ls xs 86 64 = some (o_aload 0 1) := (m_86 64).trans rfl
theorem t_86_65 {Ls : Nat} {xs : Nat → Int32} : am_tbl Ls xs 86 65 = some (o_get 8 3) := (m_86 65).trans rfl
theorem t_86_68 {Ls : Nat} {xs : Nat → Int32} : am_tbl Ls xs 86 68 = some (o_get 6 3) := (m_86 68).trans rfl
theorem t_86_71 {Ls : Nat} {xs : Nat → Int32} : am_tbl Ls xs 86 71 = some (o_iload 4 2) := (m_86 71).trans rfl
theorem t_86_73 {Ls : Nat} {xs : Nat → Int32} : am_tbl Ls xs 86 73 = some (o_iload 3 1) := (m_86 73).trans rfl
theorem t_86_74 {Ls : Nat} {xs : Nat → Int32} : am_tbl Ls xs 86 74 = some (o_iast 1 (fun x => x)) := (m_86 74).trans rfl
theorem t_86_75 {Ls : Nat} {xs : Nat → Int32} : am_tbl Ls xs 86 75 = some (o_aload 0 1) := (m_86 75).trans rfl
theorem t_86_76 {Ls : Nat} {xs : Nat → Int32} : am_tbl Ls xs 86 76 = some (o_get 8 10) := (m_86 76).trans rfl
theorem t_86_79 {Ls : Nat} {xs : Nat → Int32} : am_tbl Ls xs 86 79 = some (o_callv 167 0 5 3) := (m_86 79).trans rfl
theorem t_86_82 {Ls : Nat} {xs : Nat → Int32} : am_tbl Ls xs 86 82 = some (o_iload 5 2) := (m_86 82).trans rfl
theorem t_86_84 {Ls : Nat} {xs : Nat → Int32} : am_tbl Ls xs 86 84 = some (o_iret) := (m_86 84).trans rfl
theorem m_87 {Ls : Nat} {xs : Nat → Int32} (pc : Nat) : am_tbl Ls xs 87 pc = am_lk (op_X8_day) pc := rfl
theorem t_87_0 {Ls : Nat} {xs : Nat → Int32} : am_tbl Ls xs 87 0 = some (o_iload 1 1) := (m_87 0).trans rfl
theorem t_87_1 {Ls : Nat} {xs : Nat → Int32} : am_tbl Ls xs 87 1 = some (o_push (.int 1) 1) := (m_87 1).trans rfl
theorem t_87_2 {Ls : Nat} {xs : Nat → Int32} : am_tbl Ls xs 87 2 = some (o_icmp (fun x y => decide (x < y)) 11) := (m_87 2).trans rfl
theorem t_87_5 {Ls : Nat} {xs : Nat → Int32} : am_tbl Ls xs 87 5 = some (o_iload 1 1) := (m_87 5).trans rfl
theorem t_87_6 {Ls : Nat} {xs : Nat → Int32} : am_tbl Ls xs 87 6 = some (o_push (.int 99) 2) := (m_87 6).trans rfl
theorem t_87_8 {Ls : Nat} {xs : Nat → Int32} : am_tbl Ls xs 87 8 = some (o_icmp (fun x y => decide (x ≤ y)) 14) := (m_87 8).trans rfl
theorem t_87_11 {Ls : Nat} {xs : Nat → Int32} : am_tbl Ls xs 87 11 = some (o_nrm [] (o_push (.int (-1000000002)) 2)) := (m_87 11).trans rfl
theorem t_87_13 {Ls : Nat} {xs : Nat → Int32} : am_tbl Ls xs 87 13 = some (o_iret) := (m_87 13).trans rfl
theorem t_87_14 {Ls : Nat} {xs : Nat → Int32} : am_tbl Ls xs 87 14 = some (o_aload 0 1) := (m_87 14).trans rfl
theorem t_87_15 {Ls : Nat} {xs : Nat → Int32} : am_tbl Ls xs 87 15 = some (o_get 8 2) := (m_87 15).trans rfl
theorem t_87_18 {Ls : Nat} {xs : Nat → Int32} : am_tbl Ls xs 87 18 = some (o_get 2 2) := (m_87 18).trans rfl
theorem t_87_21 {Ls : Nat} {xs : Nat → Int32} : am_tbl Ls xs 87 21 = some (o_if (fun x => decide (x ≠ 0)) 27) := (m_87 21).trans rfl
theorem t_87_24 {Ls : Nat} {xs : Nat → Int32} : am_tbl Ls xs 87 24 = some (o_push (.int (-1000000003)) 2) := (m_87 24).trans rfl
theorem t_87_26 {Ls : Nat} {xs : Nat → Int32} : am_tbl Ls xs 87 26 = some (o_iret) := (m_87 26).trans rfl
theorem t_87_27 {Ls : Nat} {xs : Nat → Int32} : am_tbl Ls xs 87 27 = some (o_push (.int 0) 1) := (m_87 27).trans rfl
theorem t_87_28 {Ls : Nat} {xs : Nat → Int32} : am_tbl Ls xs 87 28 = some (o_istore 2 1) := (m_87 28).trans rfl
theorem t_87_29 {Ls : Nat} {xs : Nat → Int32} : am_tbl Ls xs 87 29 = some (o_nrm [0, 1, 2] (o_iload 2 1)) := (m_87 29).trans rfl
theorem t_87_30 {Ls : Nat} {xs : Nat → Int32} : am_tbl Ls xs 87 30 = some (o_iload 1 1) := (m_87 30).trans rfl
theorem t_87_31 {Ls : Nat} {xs : Nat → Int32} : am_tbl Ls xs 87 31 = some (o_icmp (fun x y => decide (y ≤ x)) 52) := (m_87 31).trans rfl
theorem t_87_34 {Ls : Nat} {xs : Nat → Int32} : am_tbl Ls xs 87 34 = some (o_aload 0 1) := (m_87 34).trans rfl
theorem t_87_35 {Ls : Nat} {xs : Nat → Int32} : am_tbl Ls xs 87 35 = some (o_aload 0 1) := (m_87 35).trans rfl
theorem t_87_36 {Ls : Nat} {xs : Nat → Int32} : am_tbl Ls xs 87 36 = some (o_callv 106 0 8 2) := (m_87 36).trans rfl
theorem t_87_39 {Ls : Nat} {xs : Nat → Int32} : am_tbl Ls xs 87 39 = some (o_callv 107 1 8 4) := (m_87 39).trans rfl
theorem t_87_42 {Ls : Nat} {xs : Nat → Int32} : am_tbl Ls xs 87 42 = some (o_aload 0 1) := (m_87 42).trans rfl
theorem t_87_43 {Ls : Nat} {xs : Nat → Int32} : am_tbl Ls xs 87 43 = some (o_callv 108 0 8 6) := (m_87 43).trans rfl
theorem t_87_46 {Ls : Nat} {xs : Nat → Int32} : am_tbl Ls xs 87 46 = some (o_iinc 2 1) := (m_87 46).trans rfl
theorem t_87_49 {Ls : Nat} {xs : Nat → Int32} : am_tbl Ls xs 87 49 = some (o_goto 29) := (m_87 49).trans rfl
theorem t_87_52 {Ls : Nat} {xs : Nat → Int32} : am_tbl Ls xs 87 52 = some (o_aload 0 1) := (m_87 52).trans rfl
theorem t_87_53 {Ls : Nat} {xs : Nat → Int32} : am_tbl Ls xs 87 53 = some (o_get 8 3) := (m_87 53).trans rfl
theorem t_87_56 {Ls : Nat} {xs : Nat → Int32} : am_tbl Ls xs 87 56 = some (o_get 6 4) := (m_87 56).trans rfl
theorem t_87_59 {Ls : Nat} {xs : Nat → Int32} : am_tbl Ls xs 87 59 = some (o_iret) := (m_87 59).trans rfl
theorem m_88 {Ls : Nat} {xs : Nat → Int32} (pc : Nat) : am_tbl Ls xs 88 pc = am_lk (op_X8_best) pc := rfl
theorem t_88_0 {Ls : Nat} {xs : Nat → Int32} : am_tbl Ls xs 88 0 = some (o_aload 0 1) := (m_88 0).trans rfl
theorem t_88_1 {Ls : Nat} {xs : Nat → Int32} : am_tbl Ls xs 88 1 = some (o_get 8 2) := (m_88 1).trans rfl
theorem t_88_4 {Ls : Nat} {xs : Nat → Int32} : am_tbl Ls xs 88 4 = some (o_iload 1 1) := (m_88 4).trans rfl
theorem t_88_5 {Ls : Nat} {xs : Nat → Int32} : am_tbl Ls xs 88 5 = some (o_callv 135 1 2 2) := (m_88 5).trans rfl
theorem t_88_8 {Ls : Nat} {xs : Nat → Int32} : am_tbl Ls xs 88 8 = some (o_if (fun x => decide (x ≠ 0)) 14) := (m_88 8).trans rfl
theorem t_88_11 {Ls : Nat} {xs : Nat → Int32} : am_tbl Ls xs 88 11 = some (o_push (.int (-1000000001)) 2) := (m_88 11).trans rfl
theorem t_88_13 {Ls : Nat} {xs : Nat → Int32} : am_tbl Ls xs 88 13 = some (o_iret) := (m_88 13).trans rfl
theorem t_88_14 {Ls : Nat} {xs : Nat → Int32} : am_tbl Ls xs 88 14 = some (o_iload 2 1) := (m_88 14).trans rfl
theorem t_88_15 {Ls : Nat} {xs : Nat → Int32} : am_tbl Ls xs 88 15 = some (o_if (fun x => decide (x < 0)) 23) := (m_88 15).trans rfl
theorem t_88_18 {Ls : Nat} {xs : Nat → Int32} : am_tbl Ls xs 88 18 = some (o_iload 2 1) := (m_88 18).trans rfl
theorem t_88_19 {Ls : Nat} {xs : Nat → Int32} : am_tbl Ls xs 88 19 = some (o_push (.int 1) 1) := (m_88 19).trans rfl
theorem t_88_20 {Ls : Nat} {xs : Nat → Int32} : am_tbl Ls xs 88 20 = some (o_icmp (fun x y => decide (x ≤ y)) 26) := (m_88 20).trans rfl
theorem t_88_23 {Ls : Nat} {xs : Nat → Int32} : am_tbl Ls xs 88 23 = some (o_nrm [] (o_push (.int (-1000000002)) 2)) := (m_88 23).trans rfl
theorem t_88_25 {Ls : Nat} {xs : Nat → Int32} : am_tbl Ls xs 88 25 = some (o_iret) := (m_88 25).trans rfl
theorem t_88_26 {Ls : Nat} {xs : Nat → Int32} : am_tbl Ls xs 88 26 = some (o_aload 0 1) := (m_88 26).trans rfl
theorem t_88_27 {Ls : Nat} {xs : Nat → Int32} : am_tbl Ls xs 88 27 = some (o_get 8 2) := (m_88 27).trans rfl
theorem t_88_30 {Ls : Nat} {xs : Nat → Int32} : am_tbl Ls xs 88 30 = some (o_aload 0 1) := (m_88 30).trans rfl
theorem t_88_31 {Ls : Nat} {xs : Nat → Int32} : am_tbl Ls xs 88 31 = some (o_get 8 11) := (m_88 31).trans rfl
theorem t_88_34 {Ls : Nat} {xs : Nat → Int32} : am_tbl Ls xs 88 34 = some (o_iload 1 1) := (m_88 34).trans rfl
theorem t_88_35 {Ls : Nat} {xs : Nat → Int32} : am_tbl Ls xs 88 35 = some (o_iload 2 1) := (m_88 35).trans rfl
theorem t_88_36 {Ls : Nat} {xs : Nat → Int32} : am_tbl Ls xs 88 36 = some (o_callv 120 2 1 7) := (m_88 36).trans rfl
theorem t_88_39 {Ls : Nat} {xs : Nat → Int32} : am_tbl Ls xs 88 39 = some (o_callv 140 1 2 2) := (m_88 39).trans rfl
theorem t_88_42 {Ls : Nat} {xs : Nat → Int32} : am_tbl Ls xs 88 42 = some (o_iret) := (m_88 42).trans rfl
theorem m_89 {Ls : Nat} {xs : Nat → Int32} (pc : Nat) : am_tbl Ls xs 89 pc = am_lk (op_X8_errand) pc := rfl
theorem t_89_0 {Ls : Nat} {xs : Nat → Int32} : am_tbl Ls xs 89 0 = some (o_aload 0 1) := (m_89 0).trans rfl
theorem t_89_1 {Ls : Nat} {xs : Nat → Int32} : am_tbl Ls xs 89 1 = some (o_get 8 2) := (m_89 1).trans rfl
theorem t_89_4 {Ls : Nat} {xs : Nat → Int32} : am_tbl Ls xs 89 4 = some (o_iload 2 1) := (m_89 4).trans rfl
theorem t_89_5 {Ls : Nat} {xs : Nat → Int32} : am_tbl Ls xs 89 5 = some (o_iload 3 1) := (m_89 5).trans rfl
theorem t_89_6 {Ls : Nat} {xs : Nat → Int32} : am_tbl Ls xs 89 6 = some (o_callv 137 2 2 3) := (m_89 6).trans rfl
theorem t_89_9 {Ls : Nat} {xs : Nat → Int32} : am_tbl Ls xs 89 9 = some (o_istore 5 2) := (m_89 9).trans rfl
theorem t_89_11 {Ls : Nat} {xs : Nat → Int32} : am_tbl Ls xs 89 11 = some (o_aload 0 1) := (m_89 11).trans rfl
theorem t_89_12 {Ls : Nat} {xs : Nat → Int32} : am_tbl Ls xs 89 12 = some (o_get 8 2) := (m_89 12).trans rfl
theorem t_89_15 {Ls : Nat} {xs : Nat → Int32} : am_tbl Ls xs 89 15 = some (o_iload 1 1) := (m_89 15).trans rfl
theorem t_89_16 {Ls : Nat} {xs : Nat → Int32} : am_tbl Ls xs 89 16 = some (o_callv 135 1 2 2) := (m_89 16).trans rfl
theorem t_89_19 {Ls : Nat} {xs : Nat → Int32} : am_tbl Ls xs 89 19 = some (o_if (fun x => decide (x = 0)) 40) := (m_89 19).trans rfl
theorem t_89_22 {Ls : Nat} {xs : Nat → Int32} : am_tbl Ls xs 89 22 = some (o_iload 5 2) := (m_89 22).trans rfl
theorem t_89_24 {Ls : Nat} {xs : Nat → Int32} : am_tbl Ls xs 89 24 = some (o_push (.int (-1)) 1) := (m_89 24).trans rfl
theorem t_89_25 {Ls : Nat} {xs : Nat → Int32} : am_tbl Ls xs 89 25 = some (o_icmp (fun x y => decide (x = y)) 40) := (m_89 25).trans rfl
theorem t_89_28 {Ls : Nat} {xs : Nat → Int32} : am_tbl Ls xs 89 28 = some (o_aload 0 1) := (m_89 28).trans rfl
theorem t_89_29 {Ls : Nat} {xs : Nat → Int32} : am_tbl Ls xs 89 29 = some (o_get 8 2) := (m_89 29).trans rfl
theorem t_89_32 {Ls : Nat} {xs : Nat → Int32} : am_tbl Ls xs 89 32 = some (o_iload 4 2) := (m_89 32).trans rfl
theorem t_89_34 {Ls : Nat} {xs : Nat → Int32} : am_tbl Ls xs 89 34 = some (o_callv 134 1 2 2) := (m_89 34).trans rfl
theorem t_89_37 {Ls : Nat} {xs : Nat → Int32} : am_tbl Ls xs 89 37 = some (o_if (fun x => decide (x ≠ 0)) 43) := (m_89 37).trans rfl
theorem t_89_40 {Ls : Nat} {xs : Nat → Int32} : am_tbl Ls xs 89 40 = some (o_nrm [] (o_push (.int (-1000000001)) 2)) := (m_89 40).trans rfl
theorem t_89_42 {Ls : Nat} {xs : Nat → Int32} : am_tbl Ls xs 89 42 = some (o_iret) := (m_89 42).trans rfl
theorem t_89_43 {Ls : Nat} {xs : Nat → Int32} : am_tbl Ls xs 89 43 = some (o_aload 0 1) := (m_89 43).trans rfl
theorem t_89_44 {Ls : Nat} {xs : Nat → Int32} : am_tbl Ls xs 89 44 = some (o_get 8 7) := (m_89 44).trans rfl
theorem t_89_47 {Ls : Nat} {xs : Nat → Int32} : am_tbl Ls xs 89 47 = some (o_iload 1 1) := (m_89 47).trans rfl
theorem t_89_48 {Ls : Nat} {xs : Nat → Int32} : am_tbl Ls xs 89 48 = some (o_iload 5 2) := (m_89 48).trans rfl
theorem t_89_50 {Ls : Nat} {xs : Nat → Int32} : am_tbl Ls xs 89 50 = some (o_iload 4 2) := (m_89 50).trans rfl
theorem t_89_52 {Ls : Nat} {xs : Nat → Int32} : am_tbl Ls xs 89 52 = some (o_callv 161 3 4 4) := (m_89 52).trans rfl
theorem t_89_55 {Ls : Nat} {xs : Nat → Int32} : am_tbl Ls xs 89 55 = some (o_if (fun x => decide (x = 0)) 68) := (m_89 55).trans rfl
theorem t_89_58 {Ls : Nat} {xs : Nat → Int32} : am_tbl Ls xs 89 58 = some (o_aload 0 1) := (m_89 58).trans rfl
theorem t_89_59 {Ls : Nat} {xs : Nat → Int32} : am_tbl Ls xs 89 59 = some (o_get 8 7) := (m_89 59).trans rfl
theorem t_89_62 {Ls : Nat} {xs : Nat → Int32} : am_tbl Ls xs 89 62 = some (o_get 4 3) := (m_89 62).trans rfl
theorem t_89_65 {Ls : Nat} {xs : Nat → Int32} : am_tbl Ls xs 89 65 = some (o_goto 70) := (m_89 65).trans rfl
theorem t_89_68 {Ls : Nat} {xs : Nat → Int32} : am_tbl Ls xs 89 68 = some (o_push (.int (-1000000004)) 2) := (m_89 68).trans rfl
theorem t_89_70 {Ls : Nat} {xs : Nat → Int32} : am_tbl Ls xs 89 70 = some (o_nrm [] (o_iret)) := (m_89 70).trans rfl
theorem m_90 {Ls : Nat} {xs : Nat → Int32} (pc : Nat) : am_tbl Ls xs 90 pc = am_lk (op_X8_walk) pc := rfl
theorem t_90_0 {Ls : Nat} {xs : Nat → Int32} : am_tbl Ls xs 90 0 = some (o_aload 0 1) := (m_90 0).trans rfl
theorem t_90_1 {Ls : Nat} {xs : Nat → Int32} : am_tbl Ls xs 90 1 = some (o_get 8 2) := (m_90 1).trans rfl
theorem t_90_4 {Ls : Nat} {xs : Nat → Int32} : am_tbl Ls xs 90 4 = some (o_iload 1 1) := (m_90 4).trans rfl
theorem t_90_5 {Ls : Nat} {xs : Nat → Int32} : am_tbl Ls xs 90 5 = some (o_callv 135 1 2 2) := (m_90 5).trans rfl
theorem t_90_8 {Ls : Nat} {xs : Nat → Int32} : am_tbl Ls xs 90 8 = some (o_if (fun x => decide (x = 0)) 27) := (m_90 8).trans rfl
theorem t_90_11 {Ls : Nat} {xs : Nat → Int32} : am_tbl Ls xs 90 11 = some (o_iload 2 1) := (m_90 11).trans rfl
theorem t_90_12 {Ls : Nat} {xs : Nat → Int32} : am_tbl Ls xs 90 12 = some (o_push (.int (-1)) 1) := (m_90 12).trans rfl
theorem t_90_13 {Ls : Nat} {xs : Nat → Int32} : am_tbl Ls xs 90 13 = some (o_icmp (fun x y => decide (x = y)) 30) := (m_90 13).trans rfl
theorem t_90_16 {Ls : Nat} {xs : Nat → Int32} : am_tbl Ls xs 90 16 = some (o_aload 0 1) := (m_90 16).trans rfl
theorem t_90_17 {Ls : Nat} {xs : Nat → Int32} : am_tbl Ls xs 90 17 = some (o_get 8 2) := (m_90 17).trans rfl
theorem t_90_20 {Ls : Nat} {xs : Nat → Int32} : am_tbl Ls xs 90 20 = some (o_iload 2 1) := (m_90 20).trans rfl
theorem t_90_21 {Ls : Nat} {xs : Nat → Int32} : am_tbl Ls xs 90 21 = some (o_callv 134 1 2 2) := (m_90 21).trans rfl
theorem t_90_24 {Ls : Nat} {xs : Nat → Int32} : am_tbl Ls xs 90 24 = some (o_if (fun x => decide (x ≠ 0)) 30) := (m_90 24).trans rfl
theorem t_90_27 {Ls : Nat} {xs : Nat → Int32} : am_tbl Ls xs 90 27 = some (o_nrm [] (o_push (.int (-1000000001)) 2)) := (m_90 27).trans rfl
theorem t_90_29 {Ls : Nat} {xs : Nat → Int32} : am_tbl Ls xs 90 29 = some (o_iret) := (m_90 29).trans rfl
theorem t_90_30 {Ls : Nat} {xs : Nat → Int32} : am_tbl Ls xs 90 30 = some (o_nrm [0, 1, 2] (o_aload 0 1)) := (m_90 30).trans rfl
theorem t_90_31 {Ls : Nat} {xs : Nat → Int32} : am_tbl Ls xs 90 31 = some (o_get 8 12) := (m_90 31).trans rfl
theorem t_90_34 {Ls : Nat} {xs : Nat → Int32} : am_tbl Ls xs 90 34 = some (o_iload 1 1) := (m_90 34).trans rfl
theorem t_90_35 {Ls : Nat} {xs : Nat → Int32} : am_tbl Ls xs 90 35 = some (o_callv 188 1 7 4) := (m_90 35).trans rfl
theorem t_90_38 {Ls : Nat} {xs : Nat → Int32} : am_tbl Ls xs 90 38 = some (o_istore 3 1) := (m_90 38).trans rfl
theorem t_90_39 {Ls : Nat} {xs : Nat → Int32} : am_tbl Ls xs 90 39 = some (o_iload 3 1) := (m_90 39).trans rfl
theorem t_90_40 {Ls : Nat} {xs : Nat → Int32} : am_tbl Ls xs 90 40 = some (o_push (.int (-1)) 1) := (m_90 40).trans rfl
theorem t_90_41 {Ls : Nat} {xs : Nat → Int32} : am_tbl Ls xs 90 41 = some (o_icmp (fun x y => decide (x = y)) 49) := (m_90 41).trans rfl
theorem t_90_44 {Ls : Nat} {xs : Nat → Int32} : am_tbl Ls xs 90 44 = some (o_iload 2 1) := (m_90 44).trans rfl
theorem t_90_45 {Ls : Nat} {xs : Nat → Int32} : am_tbl Ls xs 90 45 = some (o_push (.int (-1)) 1) := (m_90 45).trans rfl
theorem t_90_46 {Ls : Nat} {xs : Nat → Int32} : am_tbl Ls xs 90 46 = some (o_icmp (fun x y => decide (x ≠ y)) 51) := (m_90 46).trans rfl
theorem t_90_49 {Ls : Nat} {xs : Nat → Int32} : am_tbl Ls xs 90 49 = some (o_nrm [3] (o_iload 3 1)) := (m_90 49).trans rfl
theorem t_90_50 {Ls : Nat} {xs : Nat → Int32} : am_tbl Ls xs 90 50 = some (o_iret) := (m_90 50).trans rfl
theorem t_90_51 {Ls : Nat} {xs : Nat → Int32} : am_tbl Ls xs 90 51 = some (o_aload 0 1) := (m_90 51).trans rfl
theorem t_90_52 {Ls : Nat} {xs : Nat → Int32} : am_tbl Ls xs 90 52 = some (o_get 8 2) := (m_90 52).trans rfl
theorem t_90_55 {Ls : Nat} {xs : Nat → Int32} : am_tbl Ls xs 90 55 = some (o_aload 0 1) := (m_90 55).trans rfl
theorem t_90_56 {Ls : Nat} {xs : Nat → Int32} : am_tbl Ls xs 90 56 = some (o_get 8 12) := (m_90 56).trans rfl
theorem t_90_59 {Ls : Nat} {xs : Nat → Int32} : am_tbl Ls xs 90 59 = some (o_iload 1 1) := (m_90 59).trans rfl
theorem t_90_60 {Ls : Nat} {xs : Nat → Int32} : am_tbl Ls xs 90 60 = some (o_iload 2 1) := (m_90 60).trans rfl
theorem t_90_61 {Ls : Nat} {xs : Nat → Int32} : am_tbl Ls xs 90 61 = some (o_callv 192 2 7 5) := (m_90 61).trans rfl
theorem t_90_64 {Ls : Nat} {xs : Nat → Int32} : am_tbl Ls xs 90 64 = some (o_callv 140 1 2 2) := (m_90 64).trans rfl
theorem t_90_67 {Ls : Nat} {xs : Nat → Int32} : am_tbl Ls xs 90 67 = some (o_iret) := (m_90 67).trans rfl
theorem m_91 {Ls : Nat} {xs : Nat → Int32} (pc : Nat) : am_tbl Ls xs 91 pc = am_lk (op_X8_couple) pc := rfl
theorem t_91_0 {Ls : Nat} {xs : Nat → Int32} : am_tbl Ls xs 91 0 = some (o_aload 0 1) := (m_91 0).trans rfl
theorem t_91_1 {Ls : Nat} {xs : Nat → Int32} : am_tbl Ls xs 91 1 = some (o_get 8 2) := (m_91 1).trans rfl
theorem t_91_4 {Ls : Nat} {xs : Nat → Int32} : am_tbl Ls xs 91 4 = some (o_iload 1 1) := (m_91 4).trans rfl
theorem t_91_5 {Ls : Nat} {xs : Nat → Int32} : am_tbl Ls xs 91 5 = some (o_callv 135 1 2 2) := (m_91 5).trans rfl
theorem t_91_8 {Ls : Nat} {xs : Nat → Int32} : am_tbl Ls xs 91 8 = some (o_if (fun x => decide (x = 0)) 27) := (m_91 8).trans rfl
theorem t_91_11 {Ls : Nat} {xs : Nat → Int32} : am_tbl Ls xs 91 11 = some (o_aload 0 1) := (m_91 11).trans rfl
theorem t_91_12 {Ls : Nat} {xs : Nat → Int32} : am_tbl Ls xs 91 12 = some (o_get 8 2) := (m_91 12).trans rfl
theorem t_91_15 {Ls : Nat} {xs : Nat → Int32} : am_tbl Ls xs 91 15 = some (o_iload 2 1) := (m_91 15).trans rfl
theorem t_91_16 {Ls : Nat} {xs : Nat → Int32} : am_tbl Ls xs 91 16 = some (o_callv 135 1 2 2) := (m_91 16).trans rfl
theorem t_91_19 {Ls : Nat} {xs : Nat → Int32} : am_tbl Ls xs 91 19 = some (o_if (fun x => decide (x = 0)) 27) := (m_91 19).trans rfl
theorem t_91_22 {Ls : Nat} {xs : Nat → Int32} : am_tbl Ls xs 91 22 = some (o_iload 1 1) := (m_91 22).trans rfl
theorem t_91_23 {Ls : Nat} {xs : Nat → Int32} : am_tbl Ls xs 91 23 = some (o_iload 2 1) := (m_91 23).trans rfl
theorem t_91_24 {Ls : Nat} {xs : Nat → Int32} : am_tbl Ls xs 91 24 = some (o_icmp (fun x y => decide (x ≠ y)) 30) := (m_91 24).trans rfl
theorem t_91_27 {Ls : Nat} {xs : Nat → Int32} : am_tbl Ls xs 91 27 = some (o_nrm [] (o_push (.int (-1000000001)) 2)) := (m_91 27).trans rfl
theorem t_91_29 {Ls : Nat} {xs : Nat → Int32} : am_tbl Ls xs 91 29 = some (o_iret) := (m_91 29).trans rfl
theorem t_91_30 {Ls : Nat} {xs : Nat → Int32} : am_tbl Ls xs 91 30 = some (o_aload 0 1) := (m_91 30).trans rfl
theorem t_91_31 {Ls : Nat} {xs : Nat → Int32} : am_tbl Ls xs 91 31 = some (o_get 8 13) := (m_91 31).trans rfl
theorem t_91_34 {Ls : Nat} {xs : Nat → Int32} : am_tbl Ls xs 91 34 = some (o_iload 1 1) := (m_91 34).trans rfl
theorem t_91_35 {Ls : Nat} {xs : Nat → Int32} : am_tbl Ls xs 91 35 = some (o_iload 2 1) := (m_91 35).trans rfl
theorem t_91_36 {Ls : Nat} {xs : Nat → Int32} : am_tbl Ls xs 91 36 = some (o_callv 111 2 0 8) := (m_91 36).trans rfl
theorem t_91_39 {Ls : Nat} {xs : Nat → Int32} : am_tbl Ls xs 91 39 = some (o_iret) := (m_91 39).trans rfl
theorem m_92 {Ls : Nat} {xs : Nat → Int32} (pc : Nat) : am_tbl Ls xs 92 pc = am_lk (op_X8_couples) pc := rfl
theorem t_92_0 {Ls : Nat} {xs : Nat → Int32} : am_tbl Ls xs 92 0 = some (o_iload 1 1) := (m_92 0).trans rfl
theorem t_92_1 {Ls : Nat} {xs : Nat → Int32} : am_tbl Ls xs 92 1 = some (o_push (.int (-1)) 1) := (m_92 1).trans rfl
theorem t_92_2 {Ls : Nat} {xs : Nat → Int32} : am_tbl Ls xs 92 2 = some (o_icmp (fun x y => decide (x = y)) 19) := (m_92 2).trans rfl
theorem t_92_5 {Ls : Nat} {xs : Nat → Int32} : am_tbl Ls xs 92 5 = some (o_aload 0 1) := (m_92 5).trans rfl
theorem t_92_6 {Ls : Nat} {xs : Nat → Int32} : am_tbl Ls xs 92 6 = some (o_get 8 2) := (m_92 6).trans rfl
theorem t_92_9 {Ls : Nat} {xs : Nat → Int32} : am_tbl Ls xs 92 9 = some (o_iload 1 1) := (m_92 9).trans rfl
theorem t_92_10 {Ls : Nat} {xs : Nat → Int32} : am_tbl Ls xs 92 10 = some (o_callv 135 1 2 2) := (m_92 10).trans rfl
theorem t_92_13 {Ls : Nat} {xs : Nat → Int32} : am_tbl Ls xs 92 13 = some (o_if (fun x => decide (x ≠ 0)) 19) := (m_92 13).trans rfl
theorem t_92_16 {Ls : Nat} {xs : Nat → Int32} : am_tbl Ls xs 92 16 = some (o_push (.int (-1000000001)) 2) := (m_92 16).trans rfl
theorem t_92_18 {Ls : Nat} {xs : Nat → Int32} : am_tbl Ls xs 92 18 = some (o_iret) := (m_92 18).trans rfl
theorem t_92_19 {Ls : Nat} {xs : Nat → Int32} : am_tbl Ls xs 92 19 = some (o_nrm [0, 1] (o_aload 0 1)) := (m_92 19).trans rfl
theorem t_92_20 {Ls : Nat} {xs : Nat → Int32} : am_tbl Ls xs 92 20 = some (o_get 8 13) := (m_92 20).trans rfl
theorem t_92_23 {Ls : Nat} {xs : Nat → Int32} : am_tbl Ls xs 92 23 = some (o_callv 112 0 0 3) := (m_92 23).trans rfl
theorem t_92_26 {Ls : Nat} {xs : Nat → Int32} : am_tbl Ls xs 92 26 = some (o_iload 1 1) := (m_92 26).trans rfl
theorem t_92_27 {Ls : Nat} {xs : Nat → Int32} : am_tbl Ls xs 92 27 = some (o_push (.int (-1)) 1) := (m_92 27).trans rfl
theorem t_92_28 {Ls : Nat} {xs : Nat → Int32} : am_tbl Ls xs 92 28 = some (o_icmp (fun x y => decide (x ≠ y)) 41) := (m_92 28).trans rfl
theorem t_92_31 {Ls : Nat} {xs : Nat → Int32} : am_tbl Ls xs 92 31 = some (o_aload 0 1) := (m_92 31).trans rfl
theorem t_92_32 {Ls : Nat} {xs : Nat → Int32} : am_tbl Ls xs 92 32 = some (o_get 8 13) := (m_92 32).trans rfl
theorem t_92_35 {Ls : Nat} {xs : Nat → Int32} : am_tbl Ls xs 92 35 = some (o_callv 116 0 0 1) := (m_92 35).trans rfl
theorem t_92_38 {Ls : Nat} {xs : Nat → Int32} : am_tbl Ls xs 92 38 = some (o_goto 49) := (m_92 38).trans rfl
theorem t_92_41 {Ls : Nat} {xs : Nat → Int32} : am_tbl Ls xs 92 41 = some (o_aload 0 1) := (m_92 41).trans rfl
theorem t_92_42 {Ls : Nat} {xs : Nat → Int32} : am_tbl Ls xs 92 42 = some (o_get 8 13) := (m_92 42).trans rfl
theorem t_92_45 {Ls : Nat} {xs : Nat → Int32} : am_tbl Ls xs 92 45 = some (o_iload 1 1) := (m_92 45).trans rfl
theorem t_92_46 {Ls : Nat} {xs : Nat → Int32} : am_tbl Ls xs 92 46 = some (o_callv 117 1 0 6) := (m_92 46).trans rfl
theorem t_92_49 {Ls : Nat} {xs : Nat → Int32} : am_tbl Ls xs 92 49 = some (o_nrm [] (o_iret)) := (m_92 49).trans rfl
theorem m_93 {Ls : Nat} {xs : Nat → Int32} (pc : Nat) : am_tbl Ls xs 93 pc = am_lk (op_X8_wall) pc := rfl
theorem t_93_0 {Ls : Nat} {xs : Nat → Int32} : am_tbl Ls xs 93 0 = some (o_aload 0 1) := (m_93 0).trans rfl
theorem t_93_1 {Ls : Nat} {xs : Nat → Int32} : am_tbl Ls xs 93 1 = some (o_get 8 2) := (m_93 1).trans rfl
theorem t_93_4 {Ls : Nat} {xs : Nat → Int32} : am_tbl Ls xs 93 4 = some (o_iload 1 1) := (m_93 4).trans rfl
theorem t_93_5 {Ls : Nat} {xs : Nat → Int32} : am_tbl Ls xs 93 5 = some (o_iload 2 1) := (m_93 5).trans rfl
theorem t_93_6 {Ls : Nat} {xs : Nat → Int32} : am_tbl Ls xs 93 6 = some (o_callv 137 2 2 3) := (m_93 6).trans rfl
theorem t_93_9 {Ls : Nat} {xs : Nat → Int32} : am_tbl Ls xs 93 9 = some (o_istore 4 2) := (m_93 9).trans rfl
theorem t_93_11 {Ls : Nat} {xs : Nat → Int32} : am_tbl Ls xs 93 11 = some (o_iload 4 2) := (m_93 11).trans rfl
theorem t_93_13 {Ls : Nat} {xs : Nat → Int32} : am_tbl Ls xs 93 13 = some (o_push (.int (-1)) 1) := (m_93 13).trans rfl
theorem t_93_14 {Ls : Nat} {xs : Nat → Int32} : am_tbl Ls xs 93 14 = some (o_icmp (fun x y => decide (x ≠ y)) 20) := (m_93 14).trans rfl
theorem t_93_17 {Ls : Nat} {xs : Nat → Int32} : am_tbl Ls xs 93 17 = some (o_push (.int (-1000000001)) 2) := (m_93 17).trans rfl
theorem t_93_19 {Ls : Nat} {xs : Nat → Int32} : am_tbl Ls xs 93 19 = some (o_iret) := (m_93 19).trans rfl
theorem t_93_20 {Ls : Nat} {xs : Nat → Int32} : am_tbl Ls xs 93 20 = some (o_iload 3 1) := (m_93 20).trans rfl
theorem t_93_21 {Ls : Nat} {xs : Nat → Int32} : am_tbl Ls xs 93 21 = some (o_push (.int 1) 1) := (m_93 21).trans rfl
theorem t_93_22 {Ls : Nat} {xs : Nat → Int32} : am_tbl Ls xs 93 22 = some (o_icmp (fun x y => decide (x < y)) 31) := (m_93 22).trans rfl
theorem t_93_25 {Ls : Nat} {xs : Nat → Int32} : am_tbl Ls xs 93 25 = some (o_iload 3 1) := (m_93 25).trans rfl
theorem t_93_26 {Ls : Nat} {xs : Nat → Int32} : am_tbl Ls xs 93 26 = some (o_push (.int 9) 2) := (m_93 26).trans rfl
theorem t_93_28 {Ls : Nat} {xs : Nat → Int32} : am_tbl Ls xs 93 28 = some (o_icmp (fun x y => decide (x ≤ y)) 34) := (m_93 28).trans rfl
theorem t_93_31 {Ls : Nat} {xs : Nat → Int32} : am_tbl Ls xs 93 31 = some (o_nrm [] (o_push (.int (-1000000002)) 2)) := (m_93 31).trans rfl
theorem t_93_33 {Ls : Nat} {xs : Nat → Int32} : am_tbl Ls xs 93 33 = some (o_iret) := (m_93 33).trans rfl
theorem t_93_34 {Ls : Nat} {xs : Nat → Int32} : am_tbl Ls xs 93 34 = some (o_aload 0 1) := (m_93 34).trans rfl
theorem t_93_35 {Ls : Nat} {xs : Nat → Int32} : am_tbl Ls xs 93 35 = some (o_get 8 11) := (m_93 35).trans rfl
theorem t_93_38 {Ls : Nat} {xs : Nat → Int32} : am_tbl Ls xs 93 38 = some (o_iload 4 2) := (m_93 38).trans rfl
theorem t_93_40 {Ls : Nat} {xs : Nat → Int32} : am_tbl Ls xs 93 40 = some (o_callv 119 1 1 2) := (m_93 40).trans rfl
theorem t_93_43 {Ls : Nat} {xs : Nat → Int32} : am_tbl Ls xs 93 43 = some (o_if (fun x => decide (x ≠ 0)) 49) := (m_93 43).trans rfl
theorem t_93_46 {Ls : Nat} {xs : Nat → Int32} : am_tbl Ls xs 93 46 = some (o_push (.int (-1000000003)) 2) := (m_93 46).trans rfl
theorem t_93_48 {Ls : Nat} {xs : Nat → Int32} : am_tbl Ls xs 93 48 = some (o_iret) := (m_93 48).trans rfl
theorem t_93_49 {Ls : Nat} {xs : Nat → Int32} : am_tbl Ls xs 93 49 = some (o_aload 0 1) := (m_93 49).trans rfl
theorem t_93_50 {Ls : Nat} {xs : Nat → Int32} : am_tbl Ls xs 93 50 = some (o_get 8 10) := (m_93 50).trans rfl
theorem t_93_53 {Ls : Nat} {xs : Nat → Int32} : am_tbl Ls xs 93 53 = some (o_callv 179 0 5 3) := (m_93 53).trans rfl
theorem t_93_56 {Ls : Nat} {xs : Nat → Int32} : am_tbl Ls xs 93 56 = some (o_aload 0 1) := (m_93 56).trans rfl
theorem t_93_57 {Ls : Nat} {xs : Nat → Int32} : am_tbl Ls xs 93 57 = some (o_get 8 11) := (m_93 57).trans rfl
theorem t_93_60 {Ls : Nat} {xs : Nat → Int32} : am_tbl Ls xs 93 60 = some (o_iload 4 2) := (m_93 60).trans rfl
theorem t_93_62 {Ls : Nat} {xs : Nat → Int32} : am_tbl Ls xs 93 62 = some (o_iload 3 1) := (m_93 62).trans rfl
theorem t_93_63 {Ls : Nat} {xs : Nat → Int32} : am_tbl Ls xs 93 63 = some (o_push (.int (-1)) 1) := (m_93 63).trans rfl
theorem t_93_64 {Ls : Nat} {xs : Nat → Int32} : am_tbl Ls xs 93 64 = some (o_callv 121 3 1 6) := (m_93 64).trans rfl
theorem t_93_67 {Ls : Nat} {xs : Nat → Int32} : am_tbl Ls xs 93 67 = some (o_ibin (fun x y => x - y)) := (m_93 67).trans rfl
theorem t_93_68 {Ls : Nat} {xs : Nat → Int32} : am_tbl Ls xs 93 68 = some (o_iret) := (m_93 68).trans rfl
theorem m_94 {Ls : Nat} {xs : Nat → Int32} (pc : Nat) : am_tbl Ls xs 94 pc = am_lk (op_X8_bestWall) pc := rfl
theorem t_94_0 {Ls : Nat} {xs : Nat → Int32} : am_tbl Ls xs 94 0 = some (o_aload 0 1) := (m_94 0).trans rfl
theorem t_94_1 {Ls : Nat} {xs : Nat → Int32} : am_tbl Ls xs 94 1 = some (o_get 8 2) := (m_94 1).trans rfl
theorem t_94_4 {Ls : Nat} {xs : Nat → Int32} : am_tbl Ls xs 94 4 = some (o_iload 2 1) := (m_94 4).trans rfl
theorem t_94_5 {Ls : Nat} {xs : Nat → Int32} : am_tbl Ls xs 94 5 = some (o_callv 135 1 2 2) := (m_94 5).trans rfl
theorem t_94_8 {Ls : Nat} {xs : Nat → Int32} : am_tbl Ls xs 94 8 = some (o_if (fun x => decide (x ≠ 0)) 14) := (m_94 8).trans rfl
theorem t_94_11 {Ls : Nat} {xs : Nat → Int32} : am_tbl Ls xs 94 11 = some (o_push (.int (-1000000001)) 2) := (m_94 11).trans rfl
theorem t_94_13 {Ls : Nat} {xs : Nat → Int32} : am_tbl Ls xs 94 13 = some (o_iret) := (m_94 13).trans rfl
theorem t_94_14 {Ls : Nat} {xs : Nat → Int32} : am_tbl Ls xs 94 14 = some (o_iload 1 1) := (m_94 14).trans rfl
theorem t_94_15 {Ls : Nat} {xs : Nat → Int32} : am_tbl Ls xs 94 15 = some (o_push (.int 1) 1) := (m_94 15).trans rfl
theorem t_94_16 {Ls : Nat} {xs : Nat → Int32} : am_tbl Ls xs 94 16 = some (o_icmp (fun x y => decide (x < y)) 34) := (m_94 16).trans rfl
theorem t_94_19 {Ls : Nat} {xs : Nat → Int32} : am_tbl Ls xs 94 19 = some (o_iload 1 1) := (m_94 19).trans rfl
theorem t_94_20 {Ls : Nat} {xs : Nat → Int32} : am_tbl Ls xs 94 20 = some (o_push (.int 9) 2) := (m_94 20).trans rfl
theorem t_94_22 {Ls : Nat} {xs : Nat → Int32} : am_tbl Ls xs 94 22 = some (o_icmp (fun x y => decide (y < x)) 34) := (m_94 22).trans rfl
theorem t_94_25 {Ls : Nat} {xs : Nat → Int32} : am_tbl Ls xs 94 25 = some (o_iload 3 1) := (m_94 25).trans rfl
theorem t_94_26 {Ls : Nat} {xs : Nat → Int32} : am_tbl Ls xs 94 26 = some (o_if (fun x => decide (x < 0)) 34) := (m_94 26).trans rfl
theorem t_94_29 {Ls : Nat} {xs : Nat → Int32} : am_tbl Ls xs 94 29 = some (o_iload 3 1) := (m_94 29).trans rfl
theorem t_94_30 {Ls : Nat} {xs : Nat → Int32} : am_tbl Ls xs 94 30 = some (o_push (.int 1) 1) := (m_94 30).trans rfl
theorem t_94_31 {Ls : Nat} {xs : Nat → Int32} : am_tbl Ls xs 94 31 = some (o_icmp (fun x y => decide (x ≤ y)) 37) := (m_94 31).trans rfl
theorem t_94_34 {Ls : Nat} {xs : Nat → Int32} : am_tbl Ls xs 94 34 = some (o_nrm [] (o_push (.int (-1000000002)) 2)) := (m_94 34).trans rfl
theorem t_94_36 {Ls : Nat} {xs : Nat → Int32} : am_tbl Ls xs 94 36 = some (o_iret) := (m_94 36).trans rfl
theorem t_94_37 {Ls : Nat} {xs : Nat → Int32} : am_tbl Ls xs 94 37 = some (o_aload 0 1) := (m_94 37).trans rfl
theorem t_94_38 {Ls : Nat} {xs : Nat → Int32} : am_tbl Ls xs 94 38 = some (o_get 8 2) := (m_94 38).trans rfl
theorem t_94_41 {Ls : Nat} {xs : Nat → Int32} : am_tbl Ls xs 94 41 = some (o_aload 0 1) := (m_94 41).trans rfl
theorem t_94_42 {Ls : Nat} {xs : Nat → Int32} : am_tbl Ls xs 94 42 = some (o_get 8 11) := (m_94 42).trans rfl
theorem t_94_45 {Ls : Nat} {xs : Nat → Int32} : am_tbl Ls xs 94 45 = some (o_iload 1 1) := (m_94 45).trans rfl
theorem t_94_46 {Ls : Nat} {xs : Nat → Int32} : am_tbl Ls xs 94 46 = some (o_iload 3 1) := (m_94 46).trans rfl
theorem t_94_47 {Ls : Nat} {xs : Nat → Int32} : am_tbl Ls xs 94 47 = some (o_push (.int 1) 1) := (m_94 47).trans rfl
theorem t_94_48 {Ls : Nat} {xs : Nat → Int32} : am_tbl Ls xs 94 48 = some (o_icmp (fun x y => decide (x ≠ y)) 55) := (m_94 48).trans rfl
theorem t_94_51 {Ls : Nat} {xs : Nat → Int32} : am_tbl Ls xs 94 51 = some (o_iload 2 1) := (m_94 51).trans rfl
theorem t_94_52 {Ls : Nat} {xs : Nat → Int32} : am_tbl Ls xs 94 52 = some (o_goto 56) := (m_94 52).trans rfl
theorem t_94_55 {Ls : Nat} {xs : Nat → Int32} : am_tbl Ls xs 94 55 = some (o_push (.int (-1)) 1) := (m_94 55).trans rfl
theorem t_94_56 {Ls : Nat} {xs : Nat → Int32} : am_tbl Ls xs 94 56 = some (o_nrm [] (o_callv 122 2 1 7)) := (m_94 56).trans rfl
theorem t_94_59 {Ls : Nat} {xs : Nat → Int32} : am_tbl Ls xs 94 59 = some (o_callv 140 1 2 2) := (m_94 59).trans rfl
theorem t_94_62 {Ls : Nat} {xs : Nat → Int32} : am_tbl Ls xs 94 62 = some (o_iret) := (m_94 62).trans rfl
theorem m_95 {Ls : Nat} {xs : Nat → Int32} (pc : Nat) : am_tbl Ls xs 95 pc = am_lk (op_X8_richest) pc := rfl
theorem t_95_0 {Ls : Nat} {xs : Nat → Int32} : am_tbl Ls xs 95 0 = some (o_iload 1 1) := (m_95 0).trans rfl
theorem t_95_1 {Ls : Nat} {xs : Nat → Int32} : am_tbl Ls xs 95 1 = some (o_if (fun x => decide (x < 0)) 9) := (m_95 1).trans rfl
theorem t_95_4 {Ls : Nat} {xs : Nat → Int32} : am_tbl Ls xs 95 4 = some (o_iload 1 1) := (m_95 4).trans rfl
theorem t_95_5 {Ls : Nat} {xs : Nat → Int32} : am_tbl Ls xs 95 5 = some (o_push (.int 1) 1) := (m_95 5).trans rfl
theorem t_95_6 {Ls : Nat} {xs : Nat → Int32} : am_tbl Ls xs 95 6 = some (o_icmp (fun x y => decide (x ≤ y)) 12) := (m_95 6).trans rfl
theorem t_95_9 {Ls : Nat} {xs : Nat → Int32} : am_tbl Ls xs 95 9 = some (o_nrm [] (o_push (.int (-1000000002)) 2)) := (m_95 9).trans rfl
theorem t_95_11 {Ls : Nat} {xs : Nat → Int32} : am_tbl Ls xs 95 11 = some (o_iret) := (m_95 11).trans rfl
theorem t_95_12 {Ls : Nat} {xs : Nat → Int32} : am_tbl Ls xs 95 12 = some (o_aload 0 1) := (m_95 12).trans rfl
theorem t_95_13 {Ls : Nat} {xs : Nat → Int32} : am_tbl Ls xs 95 13 = some (o_get 8 10) := (m_95 13).trans rfl
theorem t_95_16 {Ls : Nat} {xs : Nat → Int32} : am_tbl Ls xs 95 16 = some (o_callv 182 0 5 5) := (m_95 16).trans rfl
theorem t_95_19 {Ls : Nat} {xs : Nat → Int32} : am_tbl Ls xs 95 19 = some (o_istore 2 1) := (m_95 19).trans rfl
theorem t_95_20 {Ls : Nat} {xs : Nat → Int32} : am_tbl Ls xs 95 20 = some (o_iload 1 1) := (m_95 20).trans rfl
theorem t_95_21 {Ls : Nat} {xs : Nat → Int32} : am_tbl Ls xs 95 21 = some (o_if (fun x => decide (x = 0)) 29) := (m_95 21).trans rfl
theorem t_95_24 {Ls : Nat} {xs : Nat → Int32} : am_tbl Ls xs 95 24 = some (o_iload 2 1) := (m_95 24).trans rfl
theorem t_95_25 {Ls : Nat} {xs : Nat → Int32} : am_tbl Ls xs 95 25 = some (o_push (.int (-1)) 1) := (m_95 25).trans rfl
theorem t_95_26 {Ls : Nat} {xs : Nat → Int32} : am_tbl Ls xs 95 26 = some (o_icmp (fun x y => decide (x ≠ y)) 33) := (m_95 26).trans rfl
theorem t_95_29 {Ls : Nat} {xs : Nat → Int32} : am_tbl Ls xs 95 29 = some (o_nrm [2] (o_iload 2 1)) := (m_95 29).trans rfl
theorem t_95_30 {Ls : Nat} {xs : Nat → Int32} : am_tbl Ls xs 95 30 = some (o_goto 41) := (m_95 30).trans rfl
theorem t_95_33 {Ls : Nat} {xs : Nat → Int32} : am_tbl Ls xs 95 33 = some (o_aload 0 1) := (m_95 33).trans rfl
theorem t_95_34 {Ls : Nat} {xs : Nat → Int32} : am_tbl Ls xs 95 34 = some (o_get 8 10) := (m_95 34).trans rfl
theorem t_95_37 {Ls : Nat} {xs : Nat → Int32} : am_tbl Ls xs 95 37 = some (o_iload 2 1) := (m_95 37).trans rfl
theorem t_95_38 {Ls : Nat} {xs : Nat → Int32} : am_tbl Ls xs 95 38 = some (o_callv 181 1 5 4) := (m_95 38).trans rfl
theorem t_95_41 {Ls : Nat} {xs : Nat → Int32} : am_tbl Ls xs 95 41 = some (o_nrm [] (o_iret)) := (m_95 41).trans rfl
theorem m_96 {Ls : Nat} {xs : Nat → Int32} (pc : Nat) : am_tbl Ls xs 96 pc = am_lk (op_X8_tell) pc := rfl
theorem t_96_0 {Ls : Nat} {xs : Nat → Int32} : am_tbl Ls xs 96 0 = some (o_aload 0 1) := (m_96 0).trans rfl
theorem t_96_1 {Ls : Nat} {xs : Nat → Int32} : am_tbl Ls xs 96 1 = some (o_get 8 2) := (m_96 1).trans rfl
theorem t_96_4 {Ls : Nat} {xs : Nat → Int32} : am_tbl Ls xs 96 4 = some (o_iload 1 1) := (m_96 4).trans rfl
theorem t_96_5 {Ls : Nat} {xs : Nat → Int32} : am_tbl Ls xs 96 5 = some (o_callv 134 1 2 2) := (m_96 5).trans rfl
theorem t_96_8 {Ls : Nat} {xs : Nat → Int32} : am_tbl Ls xs 96 8 = some (o_if (fun x => decide (x ≠ 0)) 14) := (m_96 8).trans rfl
theorem t_96_11 {Ls : Nat} {xs : Nat → Int32} : am_tbl Ls xs 96 11 = some (o_push (.int (-1000000001)) 2) := (m_96 11).trans rfl
theorem t_96_13 {Ls : Nat} {xs : Nat → Int32} : am_tbl Ls xs 96 13 = some (o_iret) := (m_96 13).trans rfl
theorem t_96_14 {Ls : Nat} {xs : Nat → Int32} : am_tbl Ls xs 96 14 = some (o_iload 2 1) := (m_96 14).trans rfl
theorem t_96_15 {Ls : Nat} {xs : Nat → Int32} : am_tbl Ls xs 96 15 = some (o_if (fun x => decide (x < 0)) 24) := (m_96 15).trans rfl
theorem t_96_18 {Ls : Nat} {xs : Nat → Int32} : am_tbl Ls xs 96 18 = some (o_iload 2 1) := (m_96 18).trans rfl
theorem t_96_19 {Ls : Nat} {xs : Nat → Int32} : am_tbl Ls xs 96 19 = some (o_push (.int 99) 2) := (m_96 19).trans rfl
theorem t_96_21 {Ls : Nat} {xs : Nat → Int32} : am_tbl Ls xs 96 21 = some (o_icmp (fun x y => decide (x ≤ y)) 27) := (m_96 21).trans rfl
theorem t_96_24 {Ls : Nat} {xs : Nat → Int32} : am_tbl Ls xs 96 24 = some (o_nrm [] (o_push (.int (-1000000002)) 2)) := (m_96 24).trans rfl
theorem t_96_26 {Ls : Nat} {xs : Nat → Int32} : am_tbl Ls xs 96 26 = some (o_iret) := (m_96 26).trans rfl
theorem t_96_27 {Ls : Nat} {xs : Nat → Int32} : am_tbl Ls xs 96 27 = some (o_aload 0 1) := (m_96 27).trans rfl
theorem t_96_28 {Ls : Nat} {xs : Nat → Int32} : am_tbl Ls xs 96 28 = some (o_get 8 8) := (m_96 28).trans rfl
theorem t_96_31 {Ls : Nat} {xs : Nat → Int32} : am_tbl Ls xs 96 31 = some (o_push (.int 0) 1) := (m_96 31).trans rfl
theorem t_96_32 {Ls : Nat} {xs : Nat → Int32} : am_tbl Ls xs 96 32 = some (o_iload 1 1) := (m_96 32).trans rfl
theorem t_96_33 {Ls : Nat} {xs : Nat → Int32} : am_tbl Ls xs 96 33 = some (o_iload 2 1) := (m_96 33).trans rfl
theorem t_96_34 {Ls : Nat} {xs : Nat → Int32} : am_tbl Ls xs 96 34 = some (o_callv 161 3 4 4) := (m_96 34).trans rfl
theorem t_96_37 {Ls : Nat} {xs : Nat → Int32} : am_tbl Ls xs 96 37 = some (o_if (fun x => decide (x = 0)) 50) := (m_96 37).trans rfl
theorem t_96_40 {Ls : Nat} {xs : Nat → Int32} : am_tbl Ls xs 96 40 = some (o_aload 0 1) := (m_96 40).trans rfl
theorem t_96_41 {Ls : Nat} {xs : Nat → Int32} : am_tbl Ls xs 96 41 = some (o_get 8 8) := (m_96 41).trans rfl
theorem t_96_44 {Ls : Nat} {xs : Nat → Int32} : am_tbl Ls xs 96 44 = some (o_get 4 3) := (m_96 44).trans rfl
theorem t_96_47 {Ls : Nat} {xs : Nat → Int32} : am_tbl Ls xs 96 47 = some (o_goto 52) := (m_96 47).trans rfl
theorem t_96_50 {Ls : Nat} {xs : Nat → Int32} : am_tbl Ls xs 96 50 = some (o_push (.int (-1000000004)) 2) := (m_96 50).trans rfl
theorem t_96_52 {Ls : Nat} {xs : Nat → Int32} : am_tbl Ls xs 96 52 = some (o_nrm [] (o_iret)) := (m_96 52).trans rfl
theorem m_97 {Ls : Nat} {xs : Nat → Int32} (pc : Nat) : am_tbl Ls xs 97 pc = am_lk (op_X8_stood) pc := rfl
theorem t_97_0 {Ls : Nat} {xs : Nat → Int32} : am_tbl Ls xs 97 0 = some (o_aload 0 1) := (m_97 0).trans rfl
theorem t_97_1 {Ls : Nat} {xs : Nat → Int32} : am_tbl Ls xs 97 1 = some (o_get 8 2) := (m_97 1).trans rfl
theorem t_97_4 {Ls : Nat} {xs : Nat → Int32} : am_tbl Ls xs 97 4 = some (o_iload 1 1) := (m_97 4).trans rfl
theorem t_97_5 {Ls : Nat} {xs : Nat → Int32} : am_tbl Ls xs 97 5 = some (o_callv 135 1 2 2) := (m_97 5).trans rfl
theorem t_97_8 {Ls : Nat} {xs : Nat → Int32} : am_tbl Ls xs 97 8 = some (o_if (fun x => decide (x ≠ 0)) 14) := (m_97 8).trans rfl
theorem t_97_11 {Ls : Nat} {xs : Nat → Int32} : am_tbl Ls xs 97 11 = some (o_push (.int (-1000000001)) 2) := (m_97 11).trans rfl
theorem t_97_13 {Ls : Nat} {xs : Nat → Int32} : am_tbl Ls xs 97 13 = some (o_iret) := (m_97 13).trans rfl
theorem t_97_14 {Ls : Nat} {xs : Nat → Int32} : am_tbl Ls xs 97 14 = some (o_iload 2 1) := (m_97 14).trans rfl
theorem t_97_15 {Ls : Nat} {xs : Nat → Int32} : am_tbl Ls xs 97 15 = some (o_push (.int (-1)) 1) := (m_97 15).trans rfl
theorem t_97_16 {Ls : Nat} {xs : Nat → Int32} : am_tbl Ls xs 97 16 = some (o_icmp (fun x y => decide (x ≠ y)) 34) := (m_97 16).trans rfl
theorem t_97_19 {Ls : Nat} {xs : Nat → Int32} : am_tbl Ls xs 97 19 = some (o_aload 0 1) := (m_97 19).trans rfl
theorem t_97_20 {Ls : Nat} {xs : Nat → Int32} : am_tbl Ls xs 97 20 = some (o_get 8 11) := (m_97 20).trans rfl
theorem t_97_23 {Ls : Nat} {xs : Nat → Int32} : am_tbl Ls xs 97 23 = some (o_iload 1 1) := (m_97 23).trans rfl
theorem t_97_24 {Ls : Nat} {xs : Nat → Int32} : am_tbl Ls xs 97 24 = some (o_aload 0 1) := (m_97 24).trans rfl
theorem t_97_25 {Ls : Nat} {xs : Nat → Int32} : am_tbl Ls xs 97 25 = some (o_get 8 8) := (m_97 25).trans rfl
theorem t_97_28 {Ls : Nat} {xs : Nat → Int32} : am_tbl Ls xs 97 28 = some (o_callv 124 2 1 5) := (m_97 28).trans rfl
theorem t_97_31 {Ls : Nat} {xs : Nat → Int32} : am_tbl Ls xs 97 31 = some (o_goto 54) := (m_97 31).trans rfl
theorem t_97_34 {Ls : Nat} {xs : Nat → Int32} : am_tbl Ls xs 97 34 = some (o_aload 0 1) := (m_97 34).trans rfl
theorem t_97_35 {Ls : Nat} {xs : Nat → Int32} : am_tbl Ls xs 97 35 = some (o_get 8 2) := (m_97 35).trans rfl
theorem t_97_38 {Ls : Nat} {xs : Nat → Int32} : am_tbl Ls xs 97 38 = some (o_aload 0 1) := (m_97 38).trans rfl
theorem t_97_39 {Ls : Nat} {xs : Nat → Int32} : am_tbl Ls xs 97 39 = some (o_get 8 11) := (m_97 39).trans rfl
theorem t_97_42 {Ls : Nat} {xs : Nat → Int32} : am_tbl Ls xs 97 42 = some (o_iload 1 1) := (m_97 42).trans rfl
theorem t_97_43 {Ls : Nat} {xs : Nat → Int32} : am_tbl Ls xs 97 43 = some (o_aload 0 1) := (m_97 43).trans rfl
theorem t_97_44 {Ls : Nat} {xs : Nat → Int32} : am_tbl Ls xs 97 44 = some (o_get 8 8) := (m_97 44).trans rfl
theorem t_97_47 {Ls : Nat} {xs : Nat → Int32} : am_tbl Ls xs 97 47 = some (o_iload 2 1) := (m_97 47).trans rfl
theorem t_97_48 {Ls : Nat} {xs : Nat → Int32} : am_tbl Ls xs 97 48 = some (o_callv 125 3 1 6) := (m_97 48).trans rfl
theorem t_97_51 {Ls : Nat} {xs : Nat → Int32} : am_tbl Ls xs 97 51 = some (o_callv 140 1 2 2) := (m_97 51).trans rfl
theorem t_97_54 {Ls : Nat} {xs : Nat → Int32} : am_tbl Ls xs 97 54 = some (o_nrm [] (o_iret)) := (m_97 54).trans rfl
theorem m_98 {Ls : Nat} {xs : Nat → Int32} (pc : Nat) : am_tbl Ls xs 98 pc = am_lk (op_X8_write) pc := rfl
theorem t_98_0 {Ls : Nat} {xs : Nat → Int32} : am_tbl Ls xs 98 0 = some (o_aload 0 1) := (m_98 0).trans rfl
theorem t_98_1 {Ls : Nat} {xs : Nat → Int32} : am_tbl Ls xs 98 1 = some (o_get 8 2) := (m_98 1).trans rfl
theorem t_98_4 {Ls : Nat} {xs : Nat → Int32} : am_tbl Ls xs 98 4 = some (o_iload 1 1) := (m_98 4).trans rfl
theorem t_98_5 {Ls : Nat} {xs : Nat → Int32} : am_tbl Ls xs 98 5 = some (o_callv 134 1 2 2) := (m_98 5).trans rfl
theorem t_98_8 {Ls : Nat} {xs : Nat → Int32} : am_tbl Ls xs 98 8 = some (o_if (fun x => decide (x = 0)) 22) := (m_98 8).trans rfl
theorem t_98_11 {Ls : Nat} {xs : Nat → Int32} : am_tbl Ls xs 98 11 = some (o_aload 0 1) := (m_98 11).trans rfl
theorem t_98_12 {Ls : Nat} {xs : Nat → Int32} : am_tbl Ls xs 98 12 = some (o_get 8 2) := (m_98 12).trans rfl
theorem t_98_15 {Ls : Nat} {xs : Nat → Int32} : am_tbl Ls xs 98 15 = some (o_iload 2 1) := (m_98 15).trans rfl
theorem t_98_16 {Ls : Nat} {xs : Nat → Int32} : am_tbl Ls xs 98 16 = some (o_callv 135 1 2 2) := (m_98 16).trans rfl
theorem t_98_19 {Ls : Nat} {xs : Nat → Int32} : am_tbl Ls xs 98 19 = some (o_if (fun x => decide (x ≠ 0)) 25) := (m_98 19).trans rfl
theorem t_98_22 {Ls : Nat} {xs : Nat → Int32} : am_tbl Ls xs 98 22 = some (o_nrm [] (o_push (.int (-1000000001)) 2)) := (m_98 22).trans rfl
theorem t_98_24 {Ls : Nat} {xs : Nat → Int32} : am_tbl Ls xs 98 24 = some (o_iret) := (m_98 24).trans rfl
theorem t_98_25 {Ls : Nat} {xs : Nat → Int32} : am_tbl Ls xs 98 25 = some (o_iload 3 1) := (m_98 25).trans rfl
theorem t_98_26 {Ls : Nat} {xs : Nat → Int32} : am_tbl Ls xs 98 26 = some (o_if (fun x => decide (x < 0)) 35) := (m_98 26).trans rfl
theorem t_98_29 {Ls : Nat} {xs : Nat → Int32} : am_tbl Ls xs 98 29 = some (o_iload 3 1) := (m_98 29).trans rfl
theorem t_98_30 {Ls : Nat} {xs : Nat → Int32} : am_tbl Ls xs 98 30 = some (o_push (.int 99) 2) := (m_98 30).trans rfl
theorem t_98_32 {Ls : Nat} {xs : Nat → Int32} : am_tbl Ls xs 98 32 = some (o_icmp (fun x y => decide (x ≤ y)) 38) := (m_98 32).trans rfl
theorem t_98_35 {Ls : Nat} {xs : Nat → Int32} : am_tbl Ls xs 98 35 = some (o_nrm [] (o_push (.int (-1000000002)) 2)) := (m_98 35).trans rfl
theorem t_98_37 {Ls : Nat} {xs : Nat → Int32} : am_tbl Ls xs 98 37 = some (o_iret) := (m_98 37).trans rfl
theorem t_98_38 {Ls : Nat} {xs : Nat → Int32} : am_tbl Ls xs 98 38 = some (o_aload 0 1) := (m_98 38).trans rfl
theorem t_98_39 {Ls : Nat} {xs : Nat → Int32} : am_tbl Ls xs 98 39 = some (o_get 8 9) := (m_98 39).trans rfl
theorem t_98_42 {Ls : Nat} {xs : Nat → Int32} : am_tbl Ls xs 98 42 = some (o_iload 2 1) := (m_98 42).trans rfl
theorem t_98_43 {Ls : Nat} {xs : Nat → Int32} : am_tbl Ls xs 98 43 = some (o_iload 1 1) := (m_98 43).trans rfl
theorem t_98_44 {Ls : Nat} {xs : Nat → Int32} : am_tbl Ls xs 98 44 = some (o_iload 3 1) := (m_98 44).trans rfl
theorem t_98_45 {Ls : Nat} {xs : Nat → Int32} : am_tbl Ls xs 98 45 = some (o_callv 161 3 4 4) := (m_98 45).trans rfl
theorem t_98_48 {Ls : Nat} {xs : Nat → Int32} : am_tbl Ls xs 98 48 = some (o_if (fun x => decide (x = 0)) 61) := (m_98 48).trans rfl
theorem t_98_51 {Ls : Nat} {xs : Nat → Int32} : am_tbl Ls xs 98 51 = some (o_aload 0 1) := (m_98 51).trans rfl
theorem t_98_52 {Ls : Nat} {xs : Nat → Int32} : am_tbl Ls xs 98 52 = some (o_get 8 9) := (m_98 52).trans rfl
theorem t_98_55 {Ls : Nat} {xs : Nat → Int32} : am_tbl Ls xs 98 55 = some (o_get 4 3) := (m_98 55).trans rfl
theorem t_98_58 {Ls : Nat} {xs : Nat → Int32} : am_tbl Ls xs 98 58 = some (o_goto 63) := (m_98 58).trans rfl
theorem t_98_61 {Ls : Nat} {xs : Nat → Int32} : am_tbl Ls xs 98 61 = some (o_push (.int (-1000000004)) 2) := (m_98 61).trans rfl
theorem t_98_63 {Ls : Nat} {xs : Nat → Int32} : am_tbl Ls xs 98 63 = some (o_nrm [] (o_iret)) := (m_98 63).trans rfl
theorem m_99 {Ls : Nat} {xs : Nat → Int32} (pc : Nat) : am_tbl Ls xs 99 pc = am_lk (op_X8_tear) pc := rfl
theorem t_99_0 {Ls : Nat} {xs : Nat → Int32} : am_tbl Ls xs 99 0 = some (o_aload 0 1) := (m_99 0).trans rfl
theorem t_99_1 {Ls : Nat} {xs : Nat → Int32} : am_tbl Ls xs 99 1 = some (o_get 8 7) := (m_99 1).trans rfl
theorem t_99_4 {Ls : Nat} {xs : Nat → Int32} : am_tbl Ls xs 99 4 = some (o_get 4 3) := (m_99 4).trans rfl
theorem t_99_7 {Ls : Nat} {xs : Nat → Int32} : am_tbl Ls xs 99 7 = some (o_aload 0 1) := (m_99 7).trans rfl
theorem t_99_8 {Ls : Nat} {xs : Nat → Int32} : am_tbl Ls xs 99 8 = some (o_get 8 8) := (m_99 8).trans rfl
theorem t_99_11 {Ls : Nat} {xs : Nat → Int32} : am_tbl Ls xs 99 11 = some (o_get 4 3) := (m_99 11).trans rfl
theorem t_99_14 {Ls : Nat} {xs : Nat → Int32} : am_tbl Ls xs 99 14 = some (o_ibin (fun x y => x + y)) := (m_99 14).trans rfl
theorem t_99_15 {Ls : Nat} {xs : Nat → Int32} : am_tbl Ls xs 99 15 = some (o_aload 0 1) := (m_99 15).trans rfl
theorem t_99_16 {Ls : Nat} {xs : Nat → Int32} : am_tbl Ls xs 99 16 = some (o_get 8 9) := (m_99 16).trans rfl
theorem t_99_19 {Ls : Nat} {xs : Nat → Int32} : am_tbl Ls xs 99 19 = some (o_get 4 3) := (m_99 19).trans rfl
theorem t_99_22 {Ls : Nat} {xs : Nat → Int32} : am_tbl Ls xs 99 22 = some (o_ibin (fun x y => x + y)) := (m_99 22).trans rfl
theorem t_99_23 {Ls : Nat} {xs : Nat → Int32} : am_tbl Ls xs 99 23 = some (o_istore 1 1) := (m_99 23).trans rfl
theorem t_99_24 {Ls : Nat} {xs : Nat → Int32} : am_tbl Ls xs 99 24 = some (o_aload 0 1) := (m_99 24).trans rfl
theorem t_99_25 {Ls : Nat} {xs : Nat → Int32} : am_tbl Ls xs 99 25 = some (o_callv 105 0 8 1) := (m_99 25).trans rfl
theorem t_99_28 {Ls : Nat} {xs : Nat → Int32} : am_tbl Ls xs 99 28 = some (o_iload 1 1) := (m_99 28).trans rfl
theorem t_99_29 {Ls : Nat} {xs : Nat → Int32} : am_tbl Ls xs 99 29 = some (o_iret) := (m_99 29).trans rfl
theorem m_100 {Ls : Nat} {xs : Nat → Int32} (pc : Nat) : am_tbl Ls xs 100 pc = am_lk (op_X8_judge) pc := rfl
theorem t_100_0 {Ls : Nat} {xs : Nat → Int32} : am_tbl Ls xs 100 0 = some (o_push (.int 0) 1) := (m_100 0).trans rfl
theorem t_100_1 {Ls : Nat} {xs : Nat → Int32} : am_tbl Ls xs 100 1 = some (o_istore 1 1) := (m_100 1).trans rfl
theorem t_100_2 {Ls : Nat} {xs : Nat → Int32} : am_tbl Ls xs 100 2 = some (o_nrm [0, 1] (o_iload 1 1)) := (m_100 2).trans rfl
theorem t_100_3 {Ls : Nat} {xs : Nat → Int32} : am_tbl Ls xs 100 3 = some (o_aload 0 1) := (m_100 3).trans rfl
theorem t_100_4 {Ls : Nat} {xs : Nat → Int32} : am_tbl Ls xs 100 4 = some (o_get 8 9) := (m_100 4).trans rfl
theorem t_100_7 {Ls : Nat} {xs : Nat → Int32} : am_tbl Ls xs 100 7 = some (o_get 4 3) := (m_100 7).trans rfl
theorem t_100_10 {Ls : Nat} {xs : Nat → Int32} : am_tbl Ls xs 100 10 = some (o_icmp (fun x y => decide (y ≤ x)) 56) := (m_100 10).trans rfl
theorem t_100_13 {Ls : Nat} {xs : Nat → Int32} : am_tbl Ls xs 100 13 = some (o_aload 0 1) := (m_100 13).trans rfl
theorem t_100_14 {Ls : Nat} {xs : Nat → Int32} : am_tbl Ls xs 100 14 = some (o_get 8 9) := (m_100 14).trans rfl
theorem t_100_17 {Ls : Nat} {xs : Nat → Int32} : am_tbl Ls xs 100 17 = some (o_iload 1 1) := (m_100 17).trans rfl
theorem t_100_18 {Ls : Nat} {xs : Nat → Int32} : am_tbl Ls xs 100 18 = some (o_callv 163 1 4 2) := (m_100 18).trans rfl
theorem t_100_21 {Ls : Nat} {xs : Nat → Int32} : am_tbl Ls xs 100 21 = some (o_istore 2 1) := (m_100 21).trans rfl
theorem t_100_22 {Ls : Nat} {xs : Nat → Int32} : am_tbl Ls xs 100 22 = some (o_aload 0 1) := (m_100 22).trans rfl
theorem t_100_23 {Ls : Nat} {xs : Nat → Int32} : am_tbl Ls xs 100 23 = some (o_get 8 9) := (m_100 23).trans rfl
theorem t_100_26 {Ls : Nat} {xs : Nat → Int32} : am_tbl Ls xs 100 26 = some (o_iload 1 1) := (m_100 26).trans rfl
theorem t_100_27 {Ls : Nat} {xs : Nat → Int32} : am_tbl Ls xs 100 27 = some (o_callv 164 1 4 2) := (m_100 27).trans rfl
theorem t_100_30 {Ls : Nat} {xs : Nat → Int32} : am_tbl Ls xs 100 30 = some (o_istore 3 1) := (m_100 30).trans rfl
theorem t_100_31 {Ls : Nat} {xs : Nat → Int32} : am_tbl Ls xs 100 31 = some (o_aload 0 1) := (m_100 31).trans rfl
theorem t_100_32 {Ls : Nat} {xs : Nat → Int32} : am_tbl Ls xs 100 32 = some (o_iload 2 1) := (m_100 32).trans rfl
theorem t_100_33 {Ls : Nat} {xs : Nat → Int32} : am_tbl Ls xs 100 33 = some (o_iload 3 1) := (m_100 33).trans rfl
theorem t_100_34 {Ls : Nat} {xs : Nat → Int32} : am_tbl Ls xs 100 34 = some (o_callv 82 2 8 3) := (m_100 34).trans rfl
theorem t_100_37 {Ls : Nat} {xs : Nat → Int32} : am_tbl Ls xs 100 37 = some (o_aload 0 1) := (m_100 37).trans rfl
theorem t_100_38 {Ls : Nat} {xs : Nat → Int32} : am_tbl Ls xs 100 38 = some (o_get 8 9) := (m_100 38).trans rfl
theorem t_100_41 {Ls : Nat} {xs : Nat → Int32} : am_tbl Ls xs 100 41 = some (o_iload 1 1) := (m_100 41).trans rfl
theorem t_100_42 {Ls : Nat} {xs : Nat → Int32} : am_tbl Ls xs 100 42 = some (o_callv 165 1 4 2) := (m_100 42).trans rfl
theorem t_100_45 {Ls : Nat} {xs : Nat → Int32} : am_tbl Ls xs 100 45 = some (o_icmp (fun x y => decide (x = y)) 50) := (m_100 45).trans rfl
theorem t_100_48 {Ls : Nat} {xs : Nat → Int32} : am_tbl Ls xs 100 48 = some (o_iload 1 1) := (m_100 48).trans rfl
theorem t_100_49 {Ls : Nat} {xs : Nat → Int32} : am_tbl Ls xs 100 49 = some (o_iret) := (m_100 49).trans rfl
theorem t_100_50 {Ls : Nat} {xs : Nat → Int32} : am_tbl Ls xs 100 50 = some (o_iinc 1 1) := (m_100 50).trans rfl
theorem t_100_53 {Ls : Nat} {xs : Nat → Int32} : am_tbl Ls xs 100 53 = some (o_goto 2) := (m_100 53).trans rfl
theorem t_100_56 {Ls : Nat} {xs : Nat → Int32} : am_tbl Ls xs 100 56 = some (o_push (.int (-1)) 1) := (m_100 56).trans rfl
theorem t_100_57 {Ls : Nat} {xs : Nat → Int32} : am_tbl Ls xs 100 57 = some (o_iret) := (m_100 57).trans rfl
theorem m_101 {Ls : Nat} {xs : Nat → Int32} (pc : Nat) : am_tbl Ls xs 101 pc = am_lk (op_X8_seed) pc := rfl
theorem t_101_0 {Ls : Nat} {xs : Nat → Int32} : am_tbl Ls xs 101 0 = some (o_iload 1 1) := (m_101 0).trans rfl
theorem t_101_1 {Ls : Nat} {xs : Nat → Int32} : am_tbl Ls xs 101 1 = some (o_if (fun x => decide (0 ≤ x)) 7) := (m_101 1).trans rfl
theorem t_101_4 {Ls : Nat} {xs : Nat → Int32} : am_tbl Ls xs 101 4 = some (o_push (.int (-1000000002)) 2) := (m_101 4).trans rfl
theorem t_101_6 {Ls : Nat} {xs : Nat → Int32} : am_tbl Ls xs 101 6 = some (o_iret) := (m_101 6).trans rfl
theorem t_101_7 {Ls : Nat} {xs : Nat → Int32} : am_tbl Ls xs 101 7 = some (o_aload 0 1) := (m_101 7).trans rfl
theorem t_101_8 {Ls : Nat} {xs : Nat → Int32} : am_tbl Ls xs 101 8 = some (o_get 8 3) := (m_101 8).trans rfl
theorem t_101_11 {Ls : Nat} {xs : Nat → Int32} : am_tbl Ls xs 101 11 = some (o_get 6 6) := (m_101 11).trans rfl
theorem t_101_14 {Ls : Nat} {xs : Nat → Int32} : am_tbl Ls xs 101 14 = some (o_istore 2 1) := (m_101 14).trans rfl
theorem t_101_15 {Ls : Nat} {xs : Nat → Int32} : am_tbl Ls xs 101 15 = some (o_aload 0 1) := (m_101 15).trans rfl
theorem t_101_16 {Ls : Nat} {xs : Nat → Int32} : am_tbl Ls xs 101 16 = some (o_get 8 3) := (m_101 16).trans rfl
theorem t_101_19 {Ls : Nat} {xs : Nat → Int32} : am_tbl Ls xs 101 19 = some (o_iload 1 1) := (m_101 19).trans rfl
theorem t_101_20 {Ls : Nat} {xs : Nat → Int32} : am_tbl Ls xs 101 20 = some (o_puti 6 6) := (m_101 20).trans rfl
theorem t_101_23 {Ls : Nat} {xs : Nat → Int32} : am_tbl Ls xs 101 23 = some (o_iload 2 1) := (m_101 23).trans rfl
theorem t_101_24 {Ls : Nat} {xs : Nat → Int32} : am_tbl Ls xs 101 24 = some (o_iret) := (m_101 24).trans rfl
theorem m_102 {Ls : Nat} {xs : Nat → Int32} (pc : Nat) : am_tbl Ls xs 102 pc = am_lk (op_X8_keep) pc := rfl
theorem t_102_0 {Ls : Nat} {xs : Nat → Int32} : am_tbl Ls xs 102 0 = some (o_iload 1 1) := (m_102 0).trans rfl
theorem t_102_1 {Ls : Nat} {xs : Nat → Int32} : am_tbl Ls xs 102 1 = some (o_if (fun x => decide (x < 0)) 9) := (m_102 1).trans rfl
theorem t_102_4 {Ls : Nat} {xs : Nat → Int32} : am_tbl Ls xs 102 4 = some (o_iload 1 1) := (m_102 4).trans rfl
theorem t_102_5 {Ls : Nat} {xs : Nat → Int32} : am_tbl Ls xs 102 5 = some (o_push (.int 2) 1) := (m_102 5).trans rfl
theorem t_102_6 {Ls : Nat} {xs : Nat → Int32} : am_tbl Ls xs 102 6 = some (o_icmp (fun x y => decide (x < y)) 12) := (m_102 6).trans rfl
theorem t_102_9 {Ls : Nat} {xs : Nat → Int32} : am_tbl Ls xs 102 9 = some (o_nrm [] (o_push (.int (-1000000001)) 2)) := (m_102 9).trans rfl
theorem t_102_11 {Ls : Nat} {xs : Nat → Int32} : am_tbl Ls xs 102 11 = some (o_iret) := (m_102 11).trans rfl
theorem t_102_12 {Ls : Nat} {xs : Nat → Int32} : am_tbl Ls xs 102 12 = some (o_aload 0 1) := (m_102 12).trans rfl
theorem t_102_13 {Ls : Nat} {xs : Nat → Int32} : am_tbl Ls xs 102 13 = some (o_iload 1 1) := (m_102 13).trans rfl
theorem t_102_14 {Ls : Nat} {xs : Nat → Int32} : am_tbl Ls xs 102 14 = some (o_callv 104 1 8 2) := (m_102 14).trans rfl
theorem t_102_17 {Ls : Nat} {xs : Nat → Int32} : am_tbl Ls xs 102 17 = some (o_aload 0 1) := (m_102 17).trans rfl
theorem t_102_18 {Ls : Nat} {xs : Nat → Int32} : am_tbl Ls xs 102 18 = some (o_get 8 3) := (m_102 18).trans rfl
theorem t_102_21 {Ls : Nat} {xs : Nat → Int32} : am_tbl Ls xs 102 21 = some (o_callv 185 1 6 3) := (m_102 21).trans rfl
theorem t_102_24 {Ls : Nat} {xs : Nat → Int32} : am_tbl Ls xs 102 24 = some (o_aload 0 1) := (m_102 24).trans rfl
theorem t_102_25 {Ls : Nat} {xs : Nat → Int32} : am_tbl Ls xs 102 25 = some (o_get 8 6) := (m_102 25).trans rfl
theorem t_102_28 {Ls : Nat} {xs : Nat → Int32} : am_tbl Ls xs 102 28 = some (o_iload 1 1) := (m_102 28).trans rfl
theorem t_102_29 {Ls : Nat} {xs : Nat → Int32} : am_tbl Ls xs 102 29 = some (o_push (.int 1) 1) := (m_102 29).trans rfl
theorem t_102_30 {Ls : Nat} {xs : Nat → Int32} : am_tbl Ls xs 102 30 = some (o_iast 1 (fun x => x)) := (m_102 30).trans rfl
theorem t_102_31 {Ls : Nat} {xs : Nat → Int32} : am_tbl Ls xs 102 31 = some (o_push (.int 1) 1) := (m_102 31).trans rfl
theorem t_102_32 {Ls : Nat} {xs : Nat → Int32} : am_tbl Ls xs 102 32 = some (o_iret) := (m_102 32).trans rfl
theorem m_103 {Ls : Nat} {xs : Nat → Int32} (pc : Nat) : am_tbl Ls xs 103 pc = am_lk (op_X8_goBack) pc := rfl
theorem t_103_0 {Ls : Nat} {xs : Nat → Int32} : am_tbl Ls xs 103 0 = some (o_iload 1 1) := (m_103 0).trans rfl
theorem t_103_1 {Ls : Nat} {xs : Nat → Int32} : am_tbl Ls xs 103 1 = some (o_if (fun x => decide (x < 0)) 9) := (m_103 1).trans rfl
theorem t_103_4 {Ls : Nat} {xs : Nat → Int32} : am_tbl Ls xs 103 4 = some (o_iload 1 1) := (m_103 4).trans rfl
theorem t_103_5 {Ls : Nat} {xs : Nat → Int32} : am_tbl Ls xs 103 5 = some (o_push (.int 2) 1) := (m_103 5).trans rfl
theorem t_103_6 {Ls : Nat} {xs : Nat → Int32} : am_tbl Ls xs 103 6 = some (o_icmp (fun x y => decide (x < y)) 12) := (m_103 6).trans rfl
theorem t_103_9 {Ls : Nat} {xs : Nat → Int32} : am_tbl Ls xs 103 9 = some (o_nrm [] (o_push (.int (-1000000001)) 2)) := (m_103 9).trans rfl
theorem t_103_11 {Ls : Nat} {xs : Nat → Int32} : am_tbl Ls xs 103 11 = some (o_iret) := (m_103 11).trans rfl
theorem t_103_12 {Ls : Nat} {xs : Nat → Int32} : am_tbl Ls xs 103 12 = some (o_aload 0 1) := (m_103 12).trans rfl
theorem t_103_13 {Ls : Nat} {xs : Nat → Int32} : am_tbl Ls xs 103 13 = some (o_get 8 6) := (m_103 13).trans rfl
theorem t_103_16 {Ls : Nat} {xs : Nat → Int32} : am_tbl Ls xs 103 16 = some (o_iload 1 1) := (m_103 16).trans rfl
theorem t_103_17 {Ls : Nat} {xs : Nat → Int32} : am_tbl Ls xs 103 17 = some (o_iald 1) := (m_103 17).trans rfl
theorem t_103_18 {Ls : Nat} {xs : Nat → Int32} : am_tbl Ls xs 103 18 = some (o_if (fun x => decide (x ≠ 0)) 24) := (m_103 18).trans rfl
theorem t_103_21 {Ls : Nat} {xs : Nat → Int32} : am_tbl Ls xs 103 21 = some (o_push (.int (-1000000003)) 2) := (m_103 21).trans rfl
theorem t_103_23 {Ls : Nat} {xs : Nat → Int32} : am_tbl Ls xs 103 23 = some (o_iret) := (m_103 23).trans rfl
theorem t_103_24 {Ls : Nat} {xs : Nat → Int32} : am_tbl Ls xs 103 24 = some (o_aload 0 1) := (m_103 24).trans rfl
theorem t_103_25 {Ls : Nat} {xs : Nat → Int32} : am_tbl Ls xs 103 25 = some (o_get 8 3) := (m_103 25).trans rfl
theorem t_103_28 {Ls : Nat} {xs : Nat → Int32} : am_tbl Ls xs 103 28 = some (o_aload 0 1) := (m_103 28).trans rfl
theorem t_103_29 {Ls : Nat} {xs : Nat → Int32} : am_tbl Ls xs 103 29 = some (o_iload 1 1) := (m_103 29).trans rfl
theorem t_103_30 {Ls : Nat} {xs : Nat → Int32} : am_tbl Ls xs 103 30 = some (o_callv 104 1 8 2) := (m_103 30).trans rfl
theorem t_103_33 {Ls : Nat} {xs : Nat → Int32} : am_tbl Ls xs 103 33 = some (o_callv 185 1 6 3) := (m_103 33).trans rfl
theorem t_103_36 {Ls : Nat} {xs : Nat → Int32} : am_tbl Ls xs 103 36 = some (o_aload 0 1) := (m_103 36).trans rfl
theorem t_103_37 {Ls : Nat} {xs : Nat → Int32} : am_tbl Ls xs 103 37 = some (o_get 8 10) := (m_103 37).trans rfl
theorem t_103_40 {Ls : Nat} {xs : Nat → Int32} : am_tbl Ls xs 103 40 = some (o_callv 167 0 5 3) := (m_103 40).trans rfl
theorem t_103_43 {Ls : Nat} {xs : Nat → Int32} : am_tbl Ls xs 103 43 = some (o_push (.int 1) 1) := (m_103 43).trans rfl
theorem t_103_44 {Ls : Nat} {xs : Nat → Int32} : am_tbl Ls xs 103 44 = some (o_iret) := (m_103 44).trans rfl
theorem m_104 {Ls : Nat} {xs : Nat → Int32} (pc : Nat) : am_tbl Ls xs 104 pc = am_lk (op_X8_imageOf) pc := rfl
theorem t_104_0 {Ls : Nat} {xs : Nat → Int32} : am_tbl Ls xs 104 0 = some (o_iload 1 1) := (m_104 0).trans rfl
theorem t_104_1 {Ls : Nat} {xs : Nat → Int32} : am_tbl Ls xs 104 1 = some (o_if (fun x => decide (x ≠ 0)) 11) := (m_104 1).trans rfl
theorem t_104_4 {Ls : Nat} {xs : Nat → Int32} : am_tbl Ls xs 104 4 = some (o_aload 0 1) := (m_104 4).trans rfl
theorem t_104_5 {Ls : Nat} {xs : Nat → Int32} : am_tbl Ls xs 104 5 = some (o_get 8 4) := (m_104 5).trans rfl
theorem t_104_8 {Ls : Nat} {xs : Nat → Int32} : am_tbl Ls xs 104 8 = some (o_goto 15) := (m_104 8).trans rfl
theorem t_104_11 {Ls : Nat} {xs : Nat → Int32} : am_tbl Ls xs 104 11 = some (o_aload 0 1) := (m_104 11).trans rfl
theorem t_104_12 {Ls : Nat} {xs : Nat → Int32} : am_tbl Ls xs 104 12 = some (o_get 8 5) := (m_104 12).trans rfl
theorem t_104_15 {Ls : Nat} {xs : Nat → Int32} : am_tbl Ls xs 104 15 = some (o_nrm [] (o_aret)) := (m_104 15).trans rfl
theorem m_105 {Ls : Nat} {xs : Nat → Int32} (pc : Nat) : am_tbl Ls xs 105 pc = am_lk (op_X8_clearNotes) pc := rfl
theorem t_105_0 {Ls : Nat} {xs : Nat → Int32} : am_tbl Ls xs 105 0 = some (o_aload 0 1) := (m_105 0).trans rfl
theorem t_105_1 {Ls : Nat} {xs : Nat → Int32} : am_tbl Ls xs 105 1 = some (o_get 8 7) := (m_105 1).trans rfl
theorem t_105_4 {Ls : Nat} {xs : Nat → Int32} : am_tbl Ls xs 105 4 = some (o_callv 162 0 4 1) := (m_105 4).trans rfl
theorem t_105_7 {Ls : Nat} {xs : Nat → Int32} : am_tbl Ls xs 105 7 = some (o_aload 0 1) := (m_105 7).trans rfl
theorem t_105_8 {Ls : Nat} {xs : Nat → Int32} : am_tbl Ls xs 105 8 = some (o_get 8 8) := (m_105 8).trans rfl
theorem t_105_11 {Ls : Nat} {xs : Nat → Int32} : am_tbl Ls xs 105 11 = some (o_callv 162 0 4 1) := (m_105 11).trans rfl
theorem t_105_14 {Ls : Nat} {xs : Nat → Int32} : am_tbl Ls xs 105 14 = some (o_aload 0 1) := (m_105 14).trans rfl
theorem t_105_15 {Ls : Nat} {xs : Nat → Int32} : am_tbl Ls xs 105 15 = some (o_get 8 9) := (m_105 15).trans rfl
theorem t_105_18 {Ls : Nat} {xs : Nat → Int32} : am_tbl Ls xs 105 18 = some (o_callv 162 0 4 1) := (m_105 18).trans rfl
theorem t_105_21 {Ls : Nat} {xs : Nat → Int32} : am_tbl Ls xs 105 21 = some (o_vret) := (m_105 21).trans rfl
theorem m_106 {Ls : Nat} {xs : Nat → Int32} (pc : Nat) : am_tbl Ls xs 106 pc = am_lk (op_X8_drawHour) pc := rfl
theorem t_106_0 {Ls : Nat} {xs : Nat → Int32} : am_tbl Ls xs 106 0 = some (o_aload 0 1) := (m_106 0).trans rfl
theorem t_106_1 {Ls : Nat} {xs : Nat → Int32} : am_tbl Ls xs 106 1 = some (o_get 8 3) := (m_106 1).trans rfl
theorem t_106_4 {Ls : Nat} {xs : Nat → Int32} : am_tbl Ls xs 106 4 = some (o_push (.int 100) 2) := (m_106 4).trans rfl
theorem t_106_6 {Ls : Nat} {xs : Nat → Int32} : am_tbl Ls xs 106 6 = some (o_callv 186 1 6 2) := (m_106 6).trans rfl
theorem t_106_9 {Ls : Nat} {xs : Nat → Int32} : am_tbl Ls xs 106 9 = some (o_aload 0 1) := (m_106 9).trans rfl
theorem t_106_10 {Ls : Nat} {xs : Nat → Int32} : am_tbl Ls xs 106 10 = some (o_get 8 2) := (m_106 10).trans rfl
theorem t_106_13 {Ls : Nat} {xs : Nat → Int32} : am_tbl Ls xs 106 13 = some (o_get 2 5) := (m_106 13).trans rfl
theorem t_106_16 {Ls : Nat} {xs : Nat → Int32} : am_tbl Ls xs 106 16 = some (o_icmp (fun x y => decide (y ≤ x)) 21) := (m_106 16).trans rfl
theorem t_106_19 {Ls : Nat} {xs : Nat → Int32} : am_tbl Ls xs 106 19 = some (o_push (.int (-1)) 1) := (m_106 19).trans rfl
theorem t_106_20 {Ls : Nat} {xs : Nat → Int32} : am_tbl Ls xs 106 20 = some (o_iret) := (m_106 20).trans rfl
theorem t_106_21 {Ls : Nat} {xs : Nat → Int32} : am_tbl Ls xs 106 21 = some (o_aload 0 1) := (m_106 21).trans rfl
theorem t_106_22 {Ls : Nat} {xs : Nat → Int32} : am_tbl Ls xs 106 22 = some (o_get 8 2) := (m_106 22).trans rfl
theorem t_106_25 {Ls : Nat} {xs : Nat → Int32} : am_tbl Ls xs 106 25 = some (o_callv 141 0 2 3) := (m_106 25).trans rfl
theorem t_106_28 {Ls : Nat} {xs : Nat → Int32} : am_tbl Ls xs 106 28 = some (o_istore 1 1) := (m_106 28).trans rfl
theorem t_106_29 {Ls : Nat} {xs : Nat → Int32} : am_tbl Ls xs 106 29 = some (o_iload 1 1) := (m_106 29).trans rfl
theorem t_106_30 {Ls : Nat} {xs : Nat → Int32} : am_tbl Ls xs 106 30 = some (o_if (fun x => decide (x ≠ 0)) 35) := (m_106 30).trans rfl
theorem t_106_33 {Ls : Nat} {xs : Nat → Int32} : am_tbl Ls xs 106 33 = some (o_push (.int (-1)) 1) := (m_106 33).trans rfl
theorem t_106_34 {Ls : Nat} {xs : Nat → Int32} : am_tbl Ls xs 106 34 = some (o_iret) := (m_106 34).trans rfl
theorem t_106_35 {Ls : Nat} {xs : Nat → Int32} : am_tbl Ls xs 106 35 = some (o_aload 0 1) := (m_106 35).trans rfl
theorem t_106_36 {Ls : Nat} {xs : Nat → Int32} : am_tbl Ls xs 106 36 = some (o_get 8 2) := (m_106 36).trans rfl
theorem t_106_39 {Ls : Nat} {xs : Nat → Int32} : am_tbl Ls xs 106 39 = some (o_aload 0 1) := (m_106 39).trans rfl
theorem t_106_40 {Ls : Nat} {xs : Nat → Int32} : am_tbl Ls xs 106 40 = some (o_get 8 3) := (m_106 40).trans rfl
theorem t_106_43 {Ls : Nat} {xs : Nat → Int32} : am_tbl Ls xs 106 43 = some (o_iload 1 1) := (m_106 43).trans rfl
theorem t_106_44 {Ls : Nat} {xs : Nat → Int32} : am_tbl Ls xs 106 44 = some (o_callv 186 1 6 2) := (m_106 44).trans rfl
theorem t_106_47 {Ls : Nat} {xs : Nat → Int32} : am_tbl Ls xs 106 47 = some (o_callv 142 1 2 4) := (m_106 47).trans rfl
theorem t_106_50 {Ls : Nat} {xs : Nat → Int32} : am_tbl Ls xs 106 50 = some (o_iret) := (m_106 50).trans rfl
theorem m_107 {Ls : Nat} {xs : Nat → Int32} (pc : Nat) : am_tbl Ls xs 107 pc = am_lk (op_X8_payAt) pc := rfl
theorem t_107_0 {Ls : Nat} {xs : Nat → Int32} : am_tbl Ls xs 107 0 = some (o_aload 0 1) := (m_107 0).trans rfl
theorem t_107_1 {Ls : Nat} {xs : Nat → Int32} : am_tbl Ls xs 107 1 = some (o_get 8 2) := (m_107 1).trans rfl
theorem t_107_4 {Ls : Nat} {xs : Nat → Int32} : am_tbl Ls xs 107 4 = some (o_iload 1 1) := (m_107 4).trans rfl
theorem t_107_5 {Ls : Nat} {xs : Nat → Int32} : am_tbl Ls xs 107 5 = some (o_callv 134 1 2 2) := (m_107 5).trans rfl
theorem t_107_8 {Ls : Nat} {xs : Nat → Int32} : am_tbl Ls xs 107 8 = some (o_if (fun x => decide (x ≠ 0)) 12) := (m_107 8).trans rfl
theorem t_107_11 {Ls : Nat} {xs : Nat → Int32} : am_tbl Ls xs 107 11 = some (o_vret) := (m_107 11).trans rfl
theorem t_107_12 {Ls : Nat} {xs : Nat → Int32} : am_tbl Ls xs 107 12 = some (o_push (.int 0) 1) := (m_107 12).trans rfl
theorem t_107_13 {Ls : Nat} {xs : Nat → Int32} : am_tbl Ls xs 107 13 = some (o_istore 2 1) := (m_107 13).trans rfl
theorem t_107_14 {Ls : Nat} {xs : Nat → Int32} : am_tbl Ls xs 107 14 = some (o_nrm [0, 1, 2] (o_iload 2 1)) := (m_107 14).trans rfl
theorem t_107_15 {Ls : Nat} {xs : Nat → Int32} : am_tbl Ls xs 107 15 = some (o_aload 0 1) := (m_107 15).trans rfl
theorem t_107_16 {Ls : Nat} {xs : Nat → Int32} : am_tbl Ls xs 107 16 = some (o_get 8 2) := (m_107 16).trans rfl
theorem t_107_19 {Ls : Nat} {xs : Nat → Int32} : am_tbl Ls xs 107 19 = some (o_get 2 4) := (m_107 19).trans rfl
theorem t_107_22 {Ls : Nat} {xs : Nat → Int32} : am_tbl Ls xs 107 22 = some (o_icmp (fun x y => decide (y ≤ x)) 76) := (m_107 22).trans rfl
theorem t_107_25 {Ls : Nat} {xs : Nat → Int32} : am_tbl Ls xs 107 25 = some (o_aload 0 1) := (m_107 25).trans rfl
theorem t_107_26 {Ls : Nat} {xs : Nat → Int32} : am_tbl Ls xs 107 26 = some (o_get 8 10) := (m_107 26).trans rfl
theorem t_107_29 {Ls : Nat} {xs : Nat → Int32} : am_tbl Ls xs 107 29 = some (o_iload 2 1) := (m_107 29).trans rfl
theorem t_107_30 {Ls : Nat} {xs : Nat → Int32} : am_tbl Ls xs 107 30 = some (o_aload 0 1) := (m_107 30).trans rfl
theorem t_107_31 {Ls : Nat} {xs : Nat → Int32} : am_tbl Ls xs 107 31 = some (o_get 8 3) := (m_107 31).trans rfl
theorem t_107_34 {Ls : Nat} {xs : Nat → Int32} : am_tbl Ls xs 107 34 = some (o_get 6 0) := (m_107 34).trans rfl
theorem t_107_37 {Ls : Nat} {xs : Nat → Int32} : am_tbl Ls xs 107 37 = some (o_iload 2 1) := (m_107 37).trans rfl
theorem t_107_38 {Ls : Nat} {xs : Nat → Int32} : am_tbl Ls xs 107 38 = some (o_iald 1) := (m_107 38).trans rfl
theorem t_107_39 {Ls : Nat} {xs : Nat → Int32} : am_tbl Ls xs 107 39 = some (o_iload 1 1) := (m_107 39).trans rfl
theorem t_107_40 {Ls : Nat} {xs : Nat → Int32} : am_tbl Ls xs 107 40 = some (o_callv 176 3 5 4) := (m_107 40).trans rfl
theorem t_107_43 {Ls : Nat} {xs : Nat → Int32} : am_tbl Ls xs 107 43 = some (o_istore 3 1) := (m_107 43).trans rfl
theorem t_107_44 {Ls : Nat} {xs : Nat → Int32} : am_tbl Ls xs 107 44 = some (o_aload 0 1) := (m_107 44).trans rfl
theorem t_107_45 {Ls : Nat} {xs : Nat → Int32} : am_tbl Ls xs 107 45 = some (o_get 8 3) := (m_107 45).trans rfl
theorem t_107_48 {Ls : Nat} {xs : Nat → Int32} : am_tbl Ls xs 107 48 = some (o_get 6 2) := (m_107 48).trans rfl
theorem t_107_51 {Ls : Nat} {xs : Nat → Int32} : am_tbl Ls xs 107 51 = some (o_iload 2 1) := (m_107 51).trans rfl
theorem t_107_52 {Ls : Nat} {xs : Nat → Int32} : am_tbl Ls xs 107 52 = some (o_dup2) := (m_107 52).trans rfl
theorem t_107_53 {Ls : Nat} {xs : Nat → Int32} : am_tbl Ls xs 107 53 = some (o_iald 1) := (m_107 53).trans rfl
theorem t_107_54 {Ls : Nat} {xs : Nat → Int32} : am_tbl Ls xs 107 54 = some (o_iload 3 1) := (m_107 54).trans rfl
theorem t_107_55 {Ls : Nat} {xs : Nat → Int32} : am_tbl Ls xs 107 55 = some (o_ibin (fun x y => x - y)) := (m_107 55).trans rfl
theorem t_107_56 {Ls : Nat} {xs : Nat → Int32} : am_tbl Ls xs 107 56 = some (o_iast 1 (fun x => x)) := (m_107 56).trans rfl
theorem t_107_57 {Ls : Nat} {xs : Nat → Int32} : am_tbl Ls xs 107 57 = some (o_aload 0 1) := (m_107 57).trans rfl
theorem t_107_58 {Ls : Nat} {xs : Nat → Int32} : am_tbl Ls xs 107 58 = some (o_get 8 3) := (m_107 58).trans rfl
theorem t_107_61 {Ls : Nat} {xs : Nat → Int32} : am_tbl Ls xs 107 61 = some (o_dup) := (m_107 61).trans rfl
theorem t_107_62 {Ls : Nat} {xs : Nat → Int32} : am_tbl Ls xs 107 62 = some (o_get 6 4) := (m_107 62).trans rfl
theorem t_107_65 {Ls : Nat} {xs : Nat → Int32} : am_tbl Ls xs 107 65 = some (o_iload 3 1) := (m_107 65).trans rfl
theorem t_107_66 {Ls : Nat} {xs : Nat → Int32} : am_tbl Ls xs 107 66 = some (o_ibin (fun x y => x + y)) := (m_107 66).trans rfl
theorem t_107_67 {Ls : Nat} {xs : Nat → Int32} : am_tbl Ls xs 107 67 = some (o_puti 6 4) := (m_107 67).trans rfl
theorem t_107_70 {Ls : Nat} {xs : Nat → Int32} : am_tbl Ls xs 107 70 = some (o_iinc 2 1) := (m_107 70).trans rfl
theorem t_107_73 {Ls : Nat} {xs : Nat → Int32} : am_tbl Ls xs 107 73 = some (o_goto 14) := (m_107 73).trans rfl
theorem t_107_76 {Ls : Nat} {xs : Nat → Int32} : am_tbl Ls xs 107 76 = some (o_vret) := (m_107 76).trans rfl
theorem m_108 {Ls : Nat} {xs : Nat → Int32} (pc : Nat) : am_tbl Ls xs 108 pc = am_lk (op_X8_wander) pc := rfl
theorem t_108_0 {Ls : Nat} {xs : Nat → Int32} : am_tbl Ls xs 108 0 = some (o_push (.int 0) 1) := (m_108 0).trans rfl
theorem t_108_1 {Ls : Nat} {xs : Nat → Int32} : am_tbl Ls xs 108 1 = some (o_istore 1 1) := (m_108 1).trans rfl
theorem t_108_2 {Ls : Nat} {xs : Nat → Int32} : am_tbl Ls xs 108 2 = some (o_nrm [0, 1] (o_iload 1 1)) := (m_108 2).trans rfl
theorem t_108_3 {Ls : Nat} {xs : Nat → Int32} : am_tbl Ls xs 108 3 = some (o_aload 0 1) := (m_108 3).trans rfl
theorem t_108_4 {Ls : Nat} {xs : Nat → Int32} : am_tbl Ls xs 108 4 = some (o_get 8 2) := (m_108 4).trans rfl
theorem t_108_7 {Ls : Nat} {xs : Nat → Int32} : am_tbl Ls xs 108 7 = some (o_get 2 4) := (m_108 7).trans rfl
theorem t_108_10 {Ls : Nat} {xs : Nat → Int32} : am_tbl Ls xs 108 10 = some (o_icmp (fun x y => decide (y ≤ x)) 118) := (m_108 10).trans rfl
theorem t_108_13 {Ls : Nat} {xs : Nat → Int32} : am_tbl Ls xs 108 13 = some (o_aload 0 1) := (m_108 13).trans rfl
theorem t_108_14 {Ls : Nat} {xs : Nat → Int32} : am_tbl Ls xs 108 14 = some (o_get 8 3) := (m_108 14).trans rfl
theorem t_108_17 {Ls : Nat} {xs : Nat → Int32} : am_tbl Ls xs 108 17 = some (o_push (.int 9) 2) := (m_108 17).trans rfl
theorem t_108_19 {Ls : Nat} {xs : Nat → Int32} : am_tbl Ls xs 108 19 = some (o_callv 186 1 6 2) := (m_108 19).trans rfl
theorem t_108_22 {Ls : Nat} {xs : Nat → Int32} : am_tbl Ls xs 108 22 = some (o_istore 2 1) := (m_108 22).trans rfl
theorem t_108_23 {Ls : Nat} {xs : Nat → Int32} : am_tbl Ls xs 108 23 = some (o_aload 0 1) := (m_108 23).trans rfl
theorem t_108_24 {Ls : Nat} {xs : Nat → Int32} : am_tbl Ls xs 108 24 = some (o_get 8 2) := (m_108 24).trans rfl
theorem t_108_27 {Ls : Nat} {xs : Nat → Int32} : am_tbl Ls xs 108 27 = some (o_aload 0 1) := (m_108 27).trans rfl
theorem t_108_28 {Ls : Nat} {xs : Nat → Int32} : am_tbl Ls xs 108 28 = some (o_get 8 3) := (m_108 28).trans rfl
theorem t_108_31 {Ls : Nat} {xs : Nat → Int32} : am_tbl Ls xs 108 31 = some (o_get 6 0) := (m_108 31).trans rfl
theorem t_108_34 {Ls : Nat} {xs : Nat → Int32} : am_tbl Ls xs 108 34 = some (o_iload 1 1) := (m_108 34).trans rfl
theorem t_108_35 {Ls : Nat} {xs : Nat → Int32} : am_tbl Ls xs 108 35 = some (o_iald 1) := (m_108 35).trans rfl
theorem t_108_36 {Ls : Nat} {xs : Nat → Int32} : am_tbl Ls xs 108 36 = some (o_callv 138 1 2 2) := (m_108 36).trans rfl
theorem t_108_39 {Ls : Nat} {xs : Nat → Int32} : am_tbl Ls xs 108 39 = some (o_iload 2 1) := (m_108 39).trans rfl
theorem t_108_40 {Ls : Nat} {xs : Nat → Int32} : am_tbl Ls xs 108 40 = some (o_push (.int 3) 1) := (m_108 40).trans rfl
theorem t_108_41 {Ls : Nat} {xs : Nat → Int32} : am_tbl Ls xs 108 41 = some (o_idv (fun x y => x - x / y * y)) := (m_108 41).trans rfl
theorem t_108_42 {Ls : Nat} {xs : Nat → Int32} : am_tbl Ls xs 108 42 = some (o_ibin (fun x y => x + y)) := (m_108 42).trans rfl
theorem t_108_43 {Ls : Nat} {xs : Nat → Int32} : am_tbl Ls xs 108 43 = some (o_push (.int 1) 1) := (m_108 43).trans rfl
theorem t_108_44 {Ls : Nat} {xs : Nat → Int32} : am_tbl Ls xs 108 44 = some (o_ibin (fun x y => x - y)) := (m_108 44).trans rfl
theorem t_108_45 {Ls : Nat} {xs : Nat → Int32} : am_tbl Ls xs 108 45 = some (o_istore 3 1) := (m_108 45).trans rfl
theorem t_108_46 {Ls : Nat} {xs : Nat → Int32} : am_tbl Ls xs 108 46 = some (o_aload 0 1) := (m_108 46).trans rfl
theorem t_108_47 {Ls : Nat} {xs : Nat → Int32} : am_tbl Ls xs 108 47 = some (o_get 8 2) := (m_108 47).trans rfl
theorem t_108_50 {Ls : Nat} {xs : Nat → Int32} : am_tbl Ls xs 108 50 = some (o_aload 0 1) := (m_108 50).trans rfl
theorem t_108_51 {Ls : Nat} {xs : Nat → Int32} : am_tbl Ls xs 108 51 = some (o_get 8 3) := (m_108 51).trans rfl
theorem t_108_54 {Ls : Nat} {xs : Nat → Int32} : am_tbl Ls xs 108 54 = some (o_get 6 0) := (m_108 54).trans rfl
theorem t_108_57 {Ls : Nat} {xs : Nat → Int32} : am_tbl Ls xs 108 57 = some (o_iload 1 1) := (m_108 57).trans rfl
theorem t_108_58 {Ls : Nat} {xs : Nat → Int32} : am_tbl Ls xs 108 58 = some (o_iald 1) := (m_108 58).trans rfl
theorem t_108_59 {Ls : Nat} {xs : Nat → Int32} : am_tbl Ls xs 108 59 = some (o_callv 139 1 2 2) := (m_108 59).trans rfl
theorem t_108_62 {Ls : Nat} {xs : Nat → Int32} : am_tbl Ls xs 108 62 = some (o_iload 2 1) := (m_108 62).trans rfl
theorem t_108_63 {Ls : Nat} {xs : Nat → Int32} : am_tbl Ls xs 108 63 = some (o_push (.int 3) 1) := (m_108 63).trans rfl
theorem t_108_64 {Ls : Nat} {xs : Nat → Int32} : am_tbl Ls xs 108 64 = some (o_idv (fun x y => x / y)) := (m_108 64).trans rfl
theorem t_108_65 {Ls : Nat} {xs : Nat → Int32} : am_tbl Ls xs 108 65 = some (o_ibin (fun x y => x + y)) := (m_108 65).trans rfl
theorem t_108_66 {Ls : Nat} {xs : Nat → Int32} : am_tbl Ls xs 108 66 = some (o_push (.int 1) 1) := (m_108 66).trans rfl
theorem t_108_67 {Ls : Nat} {xs : Nat → Int32} : am_tbl Ls xs 108 67 = some (o_ibin (fun x y => x - y)) := (m_108 67).trans rfl
theorem t_108_68 {Ls : Nat} {xs : Nat → Int32} : am_tbl Ls xs 108 68 = some (o_istore 4 2) := (m_108 68).trans rfl
theorem t_108_70 {Ls : Nat} {xs : Nat → Int32} : am_tbl Ls xs 108 70 = some (o_aload 0 1) := (m_108 70).trans rfl
theorem t_108_71 {Ls : Nat} {xs : Nat → Int32} : am_tbl Ls xs 108 71 = some (o_get 8 2) := (m_108 71).trans rfl
theorem t_108_74 {Ls : Nat} {xs : Nat → Int32} : am_tbl Ls xs 108 74 = some (o_iload 3 1) := (m_108 74).trans rfl
theorem t_108_75 {Ls : Nat} {xs : Nat → Int32} : am_tbl Ls xs 108 75 = some (o_iload 4 2) := (m_108 75).trans rfl
theorem t_108_77 {Ls : Nat} {xs : Nat → Int32} : am_tbl Ls xs 108 77 = some (o_callv 137 2 2 3) := (m_108 77).trans rfl
theorem t_108_80 {Ls : Nat} {xs : Nat → Int32} : am_tbl Ls xs 108 80 = some (o_istore 5 2) := (m_108 80).trans rfl
theorem t_108_82 {Ls : Nat} {xs : Nat → Int32} : am_tbl Ls xs 108 82 = some (o_iload 5 2) := (m_108 82).trans rfl
theorem t_108_84 {Ls : Nat} {xs : Nat → Int32} : am_tbl Ls xs 108 84 = some (o_push (.int (-1)) 1) := (m_108 84).trans rfl
theorem t_108_85 {Ls : Nat} {xs : Nat → Int32} : am_tbl Ls xs 108 85 = some (o_icmp (fun x y => decide (x = y)) 112) := (m_108 85).trans rfl
theorem t_108_88 {Ls : Nat} {xs : Nat → Int32} : am_tbl Ls xs 108 88 = some (o_aload 0 1) := (m_108 88).trans rfl
theorem t_108_89 {Ls : Nat} {xs : Nat → Int32} : am_tbl Ls xs 108 89 = some (o_get 8 3) := (m_108 89).trans rfl
theorem t_108_92 {Ls : Nat} {xs : Nat → Int32} : am_tbl Ls xs 108 92 = some (o_get 6 3) := (m_108 92).trans rfl
theorem t_108_95 {Ls : Nat} {xs : Nat → Int32} : am_tbl Ls xs 108 95 = some (o_iload 5 2) := (m_108 95).trans rfl
theorem t_108_97 {Ls : Nat} {xs : Nat → Int32} : am_tbl Ls xs 108 97 = some (o_iald 1) := (m_108 97).trans rfl
theorem t_108_98 {Ls : Nat} {xs : Nat → Int32} : am_tbl Ls xs 108 98 = some (o_if (fun x => decide (x ≠ 0)) 112) := (m_108 98).trans rfl
theorem t_108_101 {Ls : Nat} {xs : Nat → Int32} : am_tbl Ls xs 108 101 = some (o_aload 0 1) := (m_108 101).trans rfl
theorem t_108_102 {Ls : Nat} {xs : Nat → Int32} : am_tbl Ls xs 108 102 = some (o_get 8 3) := (m_108 102).trans rfl
theorem t_108_105 {Ls : Nat} {xs : Nat → Int32} : am_tbl Ls xs 108 105 = some (o_get 6 0) := (m_108 105).trans rfl
theorem t_108_108 {Ls : Nat} {xs : Nat → Int32} : am_tbl Ls xs 108 108 = some (o_iload 1 1) := (m_108 108).trans rfl
set_option maxRecDepth 20000 in
theorem t_108_109 {Ls : Nat} {xs : Nat → Int32} : am_tbl Ls xs 108 109 = some (o_iload 5 2) := (m_108 109).trans rfl
set_option maxRecDepth 20000 in
theorem t_108_111 {Ls : Nat} {xs : Nat → Int32} : am_tbl Ls xs 108 111 = some (o_iast 1 (fun x => x)) := (m_108 111).trans rfl
set_option maxRecDepth 20000 in
theorem t_108_112 {Ls : Nat} {xs : Nat → Int32} : am_tbl Ls xs 108 112 = some (o_nrm [0, 1] (o_iinc 1 1)) := (m_108 112).trans rfl
set_option maxRecDepth 20000 in
theorem t_108_115 {Ls : Nat} {xs : Nat → Int32} : am_tbl Ls xs 108 115 = some (o_goto 2) := (m_108 115).trans rfl
set_option maxRecDepth 20000 in
theorem t_108_118 {Ls : Nat} {xs : Nat → Int32} : am_tbl Ls xs 108 118 = some (o_vret) := (m_108 118).trans rfl
