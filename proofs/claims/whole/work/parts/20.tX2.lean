/-! THE TABLES BY PLACE -/
theorem m_127 {Ls : Nat} {xs : Nat → Int32} (pc : Nat) : am_tbl Ls xs 127 pc = am_lk (op_X2_clear) pc := rfl
theorem t_127_0 {Ls : Nat} {xs : Nat → Int32} : am_tbl Ls xs 127 0 = some (o_aload 0 1) := (m_127 0).trans rfl
theorem t_127_1 {Ls : Nat} {xs : Nat → Int32} : am_tbl Ls xs 127 1 = some (o_push (.int 0) 1) := (m_127 1).trans rfl
theorem t_127_2 {Ls : Nat} {xs : Nat → Int32} : am_tbl Ls xs 127 2 = some (o_puti 2 0) := (m_127 2).trans rfl
theorem t_127_5 {Ls : Nat} {xs : Nat → Int32} : am_tbl Ls xs 127 5 = some (o_aload 0 1) := (m_127 5).trans rfl
theorem t_127_6 {Ls : Nat} {xs : Nat → Int32} : am_tbl Ls xs 127 6 = some (o_push (.int 0) 1) := (m_127 6).trans rfl
theorem t_127_7 {Ls : Nat} {xs : Nat → Int32} : am_tbl Ls xs 127 7 = some (o_puti 2 1) := (m_127 7).trans rfl
theorem t_127_10 {Ls : Nat} {xs : Nat → Int32} : am_tbl Ls xs 127 10 = some (o_aload 0 1) := (m_127 10).trans rfl
theorem t_127_11 {Ls : Nat} {xs : Nat → Int32} : am_tbl Ls xs 127 11 = some (o_push (.int 0) 1) := (m_127 11).trans rfl
theorem t_127_12 {Ls : Nat} {xs : Nat → Int32} : am_tbl Ls xs 127 12 = some (o_puti 2 2) := (m_127 12).trans rfl
theorem t_127_15 {Ls : Nat} {xs : Nat → Int32} : am_tbl Ls xs 127 15 = some (o_aload 0 1) := (m_127 15).trans rfl
theorem t_127_16 {Ls : Nat} {xs : Nat → Int32} : am_tbl Ls xs 127 16 = some (o_push (.int 0) 1) := (m_127 16).trans rfl
theorem t_127_17 {Ls : Nat} {xs : Nat → Int32} : am_tbl Ls xs 127 17 = some (o_puti 2 3) := (m_127 17).trans rfl
theorem t_127_20 {Ls : Nat} {xs : Nat → Int32} : am_tbl Ls xs 127 20 = some (o_aload 0 1) := (m_127 20).trans rfl
theorem t_127_21 {Ls : Nat} {xs : Nat → Int32} : am_tbl Ls xs 127 21 = some (o_push (.int 0) 1) := (m_127 21).trans rfl
theorem t_127_22 {Ls : Nat} {xs : Nat → Int32} : am_tbl Ls xs 127 22 = some (o_puti 2 4) := (m_127 22).trans rfl
theorem t_127_25 {Ls : Nat} {xs : Nat → Int32} : am_tbl Ls xs 127 25 = some (o_aload 0 1) := (m_127 25).trans rfl
theorem t_127_26 {Ls : Nat} {xs : Nat → Int32} : am_tbl Ls xs 127 26 = some (o_push (.int 0) 1) := (m_127 26).trans rfl
theorem t_127_27 {Ls : Nat} {xs : Nat → Int32} : am_tbl Ls xs 127 27 = some (o_puti 2 5) := (m_127 27).trans rfl
theorem t_127_30 {Ls : Nat} {xs : Nat → Int32} : am_tbl Ls xs 127 30 = some (o_push (.int 0) 1) := (m_127 30).trans rfl
theorem t_127_31 {Ls : Nat} {xs : Nat → Int32} : am_tbl Ls xs 127 31 = some (o_istore 1 1) := (m_127 31).trans rfl
theorem t_127_32 {Ls : Nat} {xs : Nat → Int32} : am_tbl Ls xs 127 32 = some (o_nrm [0, 1] (o_iload 1 1)) := (m_127 32).trans rfl
theorem t_127_33 {Ls : Nat} {xs : Nat → Int32} : am_tbl Ls xs 127 33 = some (o_push (.int 48) 2) := (m_127 33).trans rfl
theorem t_127_35 {Ls : Nat} {xs : Nat → Int32} : am_tbl Ls xs 127 35 = some (o_icmp (fun x y => decide (y ≤ x)) 51) := (m_127 35).trans rfl
theorem t_127_38 {Ls : Nat} {xs : Nat → Int32} : am_tbl Ls xs 127 38 = some (o_aload 0 1) := (m_127 38).trans rfl
theorem t_127_39 {Ls : Nat} {xs : Nat → Int32} : am_tbl Ls xs 127 39 = some (o_get 2 11) := (m_127 39).trans rfl
theorem t_127_42 {Ls : Nat} {xs : Nat → Int32} : am_tbl Ls xs 127 42 = some (o_iload 1 1) := (m_127 42).trans rfl
theorem t_127_43 {Ls : Nat} {xs : Nat → Int32} : am_tbl Ls xs 127 43 = some (o_push (.int 0) 1) := (m_127 43).trans rfl
theorem t_127_44 {Ls : Nat} {xs : Nat → Int32} : am_tbl Ls xs 127 44 = some (o_iast 1 (fun x => x)) := (m_127 44).trans rfl
theorem t_127_45 {Ls : Nat} {xs : Nat → Int32} : am_tbl Ls xs 127 45 = some (o_iinc 1 1) := (m_127 45).trans rfl
theorem t_127_48 {Ls : Nat} {xs : Nat → Int32} : am_tbl Ls xs 127 48 = some (o_goto 32) := (m_127 48).trans rfl
theorem t_127_51 {Ls : Nat} {xs : Nat → Int32} : am_tbl Ls xs 127 51 = some (o_vret) := (m_127 51).trans rfl
theorem m_128 {Ls : Nat} {xs : Nat → Int32} (pc : Nat) : am_tbl Ls xs 128 pc = am_lk (op_X2_copyFrom) pc := rfl
theorem t_128_0 {Ls : Nat} {xs : Nat → Int32} : am_tbl Ls xs 128 0 = some (o_aload 0 1) := (m_128 0).trans rfl
theorem t_128_1 {Ls : Nat} {xs : Nat → Int32} : am_tbl Ls xs 128 1 = some (o_aload 1 1) := (m_128 1).trans rfl
theorem t_128_2 {Ls : Nat} {xs : Nat → Int32} : am_tbl Ls xs 128 2 = some (o_get 2 0) := (m_128 2).trans rfl
theorem t_128_5 {Ls : Nat} {xs : Nat → Int32} : am_tbl Ls xs 128 5 = some (o_puti 2 0) := (m_128 5).trans rfl
theorem t_128_8 {Ls : Nat} {xs : Nat → Int32} : am_tbl Ls xs 128 8 = some (o_aload 0 1) := (m_128 8).trans rfl
theorem t_128_9 {Ls : Nat} {xs : Nat → Int32} : am_tbl Ls xs 128 9 = some (o_aload 1 1) := (m_128 9).trans rfl
theorem t_128_10 {Ls : Nat} {xs : Nat → Int32} : am_tbl Ls xs 128 10 = some (o_get 2 1) := (m_128 10).trans rfl
theorem t_128_13 {Ls : Nat} {xs : Nat → Int32} : am_tbl Ls xs 128 13 = some (o_puti 2 1) := (m_128 13).trans rfl
theorem t_128_16 {Ls : Nat} {xs : Nat → Int32} : am_tbl Ls xs 128 16 = some (o_aload 0 1) := (m_128 16).trans rfl
theorem t_128_17 {Ls : Nat} {xs : Nat → Int32} : am_tbl Ls xs 128 17 = some (o_aload 1 1) := (m_128 17).trans rfl
theorem t_128_18 {Ls : Nat} {xs : Nat → Int32} : am_tbl Ls xs 128 18 = some (o_get 2 2) := (m_128 18).trans rfl
theorem t_128_21 {Ls : Nat} {xs : Nat → Int32} : am_tbl Ls xs 128 21 = some (o_puti 2 2) := (m_128 21).trans rfl
theorem t_128_24 {Ls : Nat} {xs : Nat → Int32} : am_tbl Ls xs 128 24 = some (o_aload 0 1) := (m_128 24).trans rfl
theorem t_128_25 {Ls : Nat} {xs : Nat → Int32} : am_tbl Ls xs 128 25 = some (o_aload 1 1) := (m_128 25).trans rfl
theorem t_128_26 {Ls : Nat} {xs : Nat → Int32} : am_tbl Ls xs 128 26 = some (o_get 2 3) := (m_128 26).trans rfl
theorem t_128_29 {Ls : Nat} {xs : Nat → Int32} : am_tbl Ls xs 128 29 = some (o_puti 2 3) := (m_128 29).trans rfl
theorem t_128_32 {Ls : Nat} {xs : Nat → Int32} : am_tbl Ls xs 128 32 = some (o_aload 0 1) := (m_128 32).trans rfl
theorem t_128_33 {Ls : Nat} {xs : Nat → Int32} : am_tbl Ls xs 128 33 = some (o_aload 1 1) := (m_128 33).trans rfl
theorem t_128_34 {Ls : Nat} {xs : Nat → Int32} : am_tbl Ls xs 128 34 = some (o_get 2 4) := (m_128 34).trans rfl
theorem t_128_37 {Ls : Nat} {xs : Nat → Int32} : am_tbl Ls xs 128 37 = some (o_puti 2 4) := (m_128 37).trans rfl
theorem t_128_40 {Ls : Nat} {xs : Nat → Int32} : am_tbl Ls xs 128 40 = some (o_aload 0 1) := (m_128 40).trans rfl
theorem t_128_41 {Ls : Nat} {xs : Nat → Int32} : am_tbl Ls xs 128 41 = some (o_aload 1 1) := (m_128 41).trans rfl
theorem t_128_42 {Ls : Nat} {xs : Nat → Int32} : am_tbl Ls xs 128 42 = some (o_get 2 5) := (m_128 42).trans rfl
theorem t_128_45 {Ls : Nat} {xs : Nat → Int32} : am_tbl Ls xs 128 45 = some (o_puti 2 5) := (m_128 45).trans rfl
theorem t_128_48 {Ls : Nat} {xs : Nat → Int32} : am_tbl Ls xs 128 48 = some (o_push (.int 0) 1) := (m_128 48).trans rfl
theorem t_128_49 {Ls : Nat} {xs : Nat → Int32} : am_tbl Ls xs 128 49 = some (o_istore 2 1) := (m_128 49).trans rfl
theorem t_128_50 {Ls : Nat} {xs : Nat → Int32} : am_tbl Ls xs 128 50 = some (o_nrm [0, 1, 2] (o_iload 2 1)) := (m_128 50).trans rfl
theorem t_128_51 {Ls : Nat} {xs : Nat → Int32} : am_tbl Ls xs 128 51 = some (o_push (.int 6) 2) := (m_128 51).trans rfl
theorem t_128_53 {Ls : Nat} {xs : Nat → Int32} : am_tbl Ls xs 128 53 = some (o_icmp (fun x y => decide (y ≤ x)) 116) := (m_128 53).trans rfl
theorem t_128_56 {Ls : Nat} {xs : Nat → Int32} : am_tbl Ls xs 128 56 = some (o_aload 0 1) := (m_128 56).trans rfl
theorem t_128_57 {Ls : Nat} {xs : Nat → Int32} : am_tbl Ls xs 128 57 = some (o_get 2 7) := (m_128 57).trans rfl
theorem t_128_60 {Ls : Nat} {xs : Nat → Int32} : am_tbl Ls xs 128 60 = some (o_iload 2 1) := (m_128 60).trans rfl
theorem t_128_61 {Ls : Nat} {xs : Nat → Int32} : am_tbl Ls xs 128 61 = some (o_aload 1 1) := (m_128 61).trans rfl
theorem t_128_62 {Ls : Nat} {xs : Nat → Int32} : am_tbl Ls xs 128 62 = some (o_get 2 7) := (m_128 62).trans rfl
theorem t_128_65 {Ls : Nat} {xs : Nat → Int32} : am_tbl Ls xs 128 65 = some (o_iload 2 1) := (m_128 65).trans rfl
theorem t_128_66 {Ls : Nat} {xs : Nat → Int32} : am_tbl Ls xs 128 66 = some (o_iald 1) := (m_128 66).trans rfl
theorem t_128_67 {Ls : Nat} {xs : Nat → Int32} : am_tbl Ls xs 128 67 = some (o_iast 1 (fun x => x)) := (m_128 67).trans rfl
theorem t_128_68 {Ls : Nat} {xs : Nat → Int32} : am_tbl Ls xs 128 68 = some (o_aload 0 1) := (m_128 68).trans rfl
theorem t_128_69 {Ls : Nat} {xs : Nat → Int32} : am_tbl Ls xs 128 69 = some (o_get 2 8) := (m_128 69).trans rfl
theorem t_128_72 {Ls : Nat} {xs : Nat → Int32} : am_tbl Ls xs 128 72 = some (o_iload 2 1) := (m_128 72).trans rfl
theorem t_128_73 {Ls : Nat} {xs : Nat → Int32} : am_tbl Ls xs 128 73 = some (o_aload 1 1) := (m_128 73).trans rfl
theorem t_128_74 {Ls : Nat} {xs : Nat → Int32} : am_tbl Ls xs 128 74 = some (o_get 2 8) := (m_128 74).trans rfl
theorem t_128_77 {Ls : Nat} {xs : Nat → Int32} : am_tbl Ls xs 128 77 = some (o_iload 2 1) := (m_128 77).trans rfl
theorem t_128_78 {Ls : Nat} {xs : Nat → Int32} : am_tbl Ls xs 128 78 = some (o_iald 1) := (m_128 78).trans rfl
theorem t_128_79 {Ls : Nat} {xs : Nat → Int32} : am_tbl Ls xs 128 79 = some (o_iast 1 (fun x => x)) := (m_128 79).trans rfl
theorem t_128_80 {Ls : Nat} {xs : Nat → Int32} : am_tbl Ls xs 128 80 = some (o_push (.int 0) 1) := (m_128 80).trans rfl
theorem t_128_81 {Ls : Nat} {xs : Nat → Int32} : am_tbl Ls xs 128 81 = some (o_istore 3 1) := (m_128 81).trans rfl
theorem t_128_82 {Ls : Nat} {xs : Nat → Int32} : am_tbl Ls xs 128 82 = some (o_nrm [0, 1, 2, 3] (o_iload 3 1)) := (m_128 82).trans rfl
theorem t_128_83 {Ls : Nat} {xs : Nat → Int32} : am_tbl Ls xs 128 83 = some (o_push (.int 48) 2) := (m_128 83).trans rfl
theorem t_128_85 {Ls : Nat} {xs : Nat → Int32} : am_tbl Ls xs 128 85 = some (o_icmp (fun x y => decide (y ≤ x)) 110) := (m_128 85).trans rfl
theorem t_128_88 {Ls : Nat} {xs : Nat → Int32} : am_tbl Ls xs 128 88 = some (o_aload 0 1) := (m_128 88).trans rfl
theorem t_128_89 {Ls : Nat} {xs : Nat → Int32} : am_tbl Ls xs 128 89 = some (o_get 2 6) := (m_128 89).trans rfl
theorem t_128_92 {Ls : Nat} {xs : Nat → Int32} : am_tbl Ls xs 128 92 = some (o_iload 2 1) := (m_128 92).trans rfl
theorem t_128_93 {Ls : Nat} {xs : Nat → Int32} : am_tbl Ls xs 128 93 = some (o_aald) := (m_128 93).trans rfl
theorem t_128_94 {Ls : Nat} {xs : Nat → Int32} : am_tbl Ls xs 128 94 = some (o_iload 3 1) := (m_128 94).trans rfl
theorem t_128_95 {Ls : Nat} {xs : Nat → Int32} : am_tbl Ls xs 128 95 = some (o_aload 1 1) := (m_128 95).trans rfl
theorem t_128_96 {Ls : Nat} {xs : Nat → Int32} : am_tbl Ls xs 128 96 = some (o_get 2 6) := (m_128 96).trans rfl
theorem t_128_99 {Ls : Nat} {xs : Nat → Int32} : am_tbl Ls xs 128 99 = some (o_iload 2 1) := (m_128 99).trans rfl
theorem t_128_100 {Ls : Nat} {xs : Nat → Int32} : am_tbl Ls xs 128 100 = some (o_aald) := (m_128 100).trans rfl
theorem t_128_101 {Ls : Nat} {xs : Nat → Int32} : am_tbl Ls xs 128 101 = some (o_iload 3 1) := (m_128 101).trans rfl
theorem t_128_102 {Ls : Nat} {xs : Nat → Int32} : am_tbl Ls xs 128 102 = some (o_iald 1) := (m_128 102).trans rfl
set_option maxRecDepth 20000 in
theorem t_128_103 {Ls : Nat} {xs : Nat → Int32} : am_tbl Ls xs 128 103 = some (o_iast 1 (fun x => x)) := (m_128 103).trans rfl
set_option maxRecDepth 20000 in
theorem t_128_104 {Ls : Nat} {xs : Nat → Int32} : am_tbl Ls xs 128 104 = some (o_iinc 3 1) := (m_128 104).trans rfl
set_option maxRecDepth 20000 in
theorem t_128_107 {Ls : Nat} {xs : Nat → Int32} : am_tbl Ls xs 128 107 = some (o_goto 82) := (m_128 107).trans rfl
set_option maxRecDepth 20000 in
theorem t_128_110 {Ls : Nat} {xs : Nat → Int32} : am_tbl Ls xs 128 110 = some (o_iinc 2 1) := (m_128 110).trans rfl
set_option maxRecDepth 20000 in
theorem t_128_113 {Ls : Nat} {xs : Nat → Int32} : am_tbl Ls xs 128 113 = some (o_goto 50) := (m_128 113).trans rfl
set_option maxRecDepth 20000 in
theorem t_128_116 {Ls : Nat} {xs : Nat → Int32} : am_tbl Ls xs 128 116 = some (o_push (.int 0) 1) := (m_128 116).trans rfl
set_option maxRecDepth 20000 in
theorem t_128_117 {Ls : Nat} {xs : Nat → Int32} : am_tbl Ls xs 128 117 = some (o_istore 2 1) := (m_128 117).trans rfl
set_option maxRecDepth 20000 in
theorem t_128_118 {Ls : Nat} {xs : Nat → Int32} : am_tbl Ls xs 128 118 = some (o_nrm [0, 1, 2] (o_iload 2 1)) := (m_128 118).trans rfl
set_option maxRecDepth 20000 in
theorem t_128_119 {Ls : Nat} {xs : Nat → Int32} : am_tbl Ls xs 128 119 = some (o_push (.int 6) 2) := (m_128 119).trans rfl
set_option maxRecDepth 20000 in
theorem t_128_121 {Ls : Nat} {xs : Nat → Int32} : am_tbl Ls xs 128 121 = some (o_icmp (fun x y => decide (y ≤ x)) 154) := (m_128 121).trans rfl
set_option maxRecDepth 20000 in
theorem t_128_124 {Ls : Nat} {xs : Nat → Int32} : am_tbl Ls xs 128 124 = some (o_aload 0 1) := (m_128 124).trans rfl
set_option maxRecDepth 20000 in
theorem t_128_125 {Ls : Nat} {xs : Nat → Int32} : am_tbl Ls xs 128 125 = some (o_get 2 9) := (m_128 125).trans rfl
set_option maxRecDepth 20000 in
theorem t_128_128 {Ls : Nat} {xs : Nat → Int32} : am_tbl Ls xs 128 128 = some (o_iload 2 1) := (m_128 128).trans rfl
set_option maxRecDepth 20000 in
theorem t_128_129 {Ls : Nat} {xs : Nat → Int32} : am_tbl Ls xs 128 129 = some (o_aload 1 1) := (m_128 129).trans rfl
set_option maxRecDepth 20000 in
theorem t_128_130 {Ls : Nat} {xs : Nat → Int32} : am_tbl Ls xs 128 130 = some (o_get 2 9) := (m_128 130).trans rfl
set_option maxRecDepth 20000 in
theorem t_128_133 {Ls : Nat} {xs : Nat → Int32} : am_tbl Ls xs 128 133 = some (o_iload 2 1) := (m_128 133).trans rfl
set_option maxRecDepth 20000 in
theorem t_128_134 {Ls : Nat} {xs : Nat → Int32} : am_tbl Ls xs 128 134 = some (o_iald 1) := (m_128 134).trans rfl
set_option maxRecDepth 20000 in
theorem t_128_135 {Ls : Nat} {xs : Nat → Int32} : am_tbl Ls xs 128 135 = some (o_iast 1 (fun x => x)) := (m_128 135).trans rfl
set_option maxRecDepth 20000 in
theorem t_128_136 {Ls : Nat} {xs : Nat → Int32} : am_tbl Ls xs 128 136 = some (o_aload 0 1) := (m_128 136).trans rfl
set_option maxRecDepth 20000 in
theorem t_128_137 {Ls : Nat} {xs : Nat → Int32} : am_tbl Ls xs 128 137 = some (o_get 2 10) := (m_128 137).trans rfl
set_option maxRecDepth 20000 in
theorem t_128_140 {Ls : Nat} {xs : Nat → Int32} : am_tbl Ls xs 128 140 = some (o_iload 2 1) := (m_128 140).trans rfl
set_option maxRecDepth 20000 in
theorem t_128_141 {Ls : Nat} {xs : Nat → Int32} : am_tbl Ls xs 128 141 = some (o_aload 1 1) := (m_128 141).trans rfl
set_option maxRecDepth 20000 in
theorem t_128_142 {Ls : Nat} {xs : Nat → Int32} : am_tbl Ls xs 128 142 = some (o_get 2 10) := (m_128 142).trans rfl
set_option maxRecDepth 20000 in
theorem t_128_145 {Ls : Nat} {xs : Nat → Int32} : am_tbl Ls xs 128 145 = some (o_iload 2 1) := (m_128 145).trans rfl
set_option maxRecDepth 20000 in
theorem t_128_146 {Ls : Nat} {xs : Nat → Int32} : am_tbl Ls xs 128 146 = some (o_iald 1) := (m_128 146).trans rfl
set_option maxRecDepth 20000 in
theorem t_128_147 {Ls : Nat} {xs : Nat → Int32} : am_tbl Ls xs 128 147 = some (o_iast 1 (fun x => x)) := (m_128 147).trans rfl
set_option maxRecDepth 20000 in
theorem t_128_148 {Ls : Nat} {xs : Nat → Int32} : am_tbl Ls xs 128 148 = some (o_iinc 2 1) := (m_128 148).trans rfl
set_option maxRecDepth 20000 in
theorem t_128_151 {Ls : Nat} {xs : Nat → Int32} : am_tbl Ls xs 128 151 = some (o_goto 118) := (m_128 151).trans rfl
set_option maxRecDepth 20000 in
theorem t_128_154 {Ls : Nat} {xs : Nat → Int32} : am_tbl Ls xs 128 154 = some (o_push (.int 0) 1) := (m_128 154).trans rfl
set_option maxRecDepth 20000 in
theorem t_128_155 {Ls : Nat} {xs : Nat → Int32} : am_tbl Ls xs 128 155 = some (o_istore 2 1) := (m_128 155).trans rfl
set_option maxRecDepth 20000 in
theorem t_128_156 {Ls : Nat} {xs : Nat → Int32} : am_tbl Ls xs 128 156 = some (o_nrm [0, 1, 2] (o_iload 2 1)) := (m_128 156).trans rfl
set_option maxRecDepth 20000 in
theorem t_128_157 {Ls : Nat} {xs : Nat → Int32} : am_tbl Ls xs 128 157 = some (o_push (.int 48) 2) := (m_128 157).trans rfl
set_option maxRecDepth 20000 in
theorem t_128_159 {Ls : Nat} {xs : Nat → Int32} : am_tbl Ls xs 128 159 = some (o_icmp (fun x y => decide (y ≤ x)) 204) := (m_128 159).trans rfl
set_option maxRecDepth 20000 in
theorem t_128_162 {Ls : Nat} {xs : Nat → Int32} : am_tbl Ls xs 128 162 = some (o_aload 0 1) := (m_128 162).trans rfl
set_option maxRecDepth 20000 in
theorem t_128_163 {Ls : Nat} {xs : Nat → Int32} : am_tbl Ls xs 128 163 = some (o_get 2 11) := (m_128 163).trans rfl
set_option maxRecDepth 20000 in
theorem t_128_166 {Ls : Nat} {xs : Nat → Int32} : am_tbl Ls xs 128 166 = some (o_iload 2 1) := (m_128 166).trans rfl
set_option maxRecDepth 20000 in
theorem t_128_167 {Ls : Nat} {xs : Nat → Int32} : am_tbl Ls xs 128 167 = some (o_aload 1 1) := (m_128 167).trans rfl
set_option maxRecDepth 20000 in
theorem t_128_168 {Ls : Nat} {xs : Nat → Int32} : am_tbl Ls xs 128 168 = some (o_get 2 11) := (m_128 168).trans rfl
set_option maxRecDepth 20000 in
theorem t_128_171 {Ls : Nat} {xs : Nat → Int32} : am_tbl Ls xs 128 171 = some (o_iload 2 1) := (m_128 171).trans rfl
set_option maxRecDepth 20000 in
theorem t_128_172 {Ls : Nat} {xs : Nat → Int32} : am_tbl Ls xs 128 172 = some (o_iald 1) := (m_128 172).trans rfl
set_option maxRecDepth 20000 in
theorem t_128_173 {Ls : Nat} {xs : Nat → Int32} : am_tbl Ls xs 128 173 = some (o_iast 1 (fun x => x)) := (m_128 173).trans rfl
set_option maxRecDepth 20000 in
theorem t_128_174 {Ls : Nat} {xs : Nat → Int32} : am_tbl Ls xs 128 174 = some (o_aload 0 1) := (m_128 174).trans rfl
set_option maxRecDepth 20000 in
theorem t_128_175 {Ls : Nat} {xs : Nat → Int32} : am_tbl Ls xs 128 175 = some (o_get 2 12) := (m_128 175).trans rfl
set_option maxRecDepth 20000 in
theorem t_128_178 {Ls : Nat} {xs : Nat → Int32} : am_tbl Ls xs 128 178 = some (o_iload 2 1) := (m_128 178).trans rfl
set_option maxRecDepth 20000 in
theorem t_128_179 {Ls : Nat} {xs : Nat → Int32} : am_tbl Ls xs 128 179 = some (o_aload 1 1) := (m_128 179).trans rfl
set_option maxRecDepth 20000 in
theorem t_128_180 {Ls : Nat} {xs : Nat → Int32} : am_tbl Ls xs 128 180 = some (o_get 2 12) := (m_128 180).trans rfl
set_option maxRecDepth 20000 in
theorem t_128_183 {Ls : Nat} {xs : Nat → Int32} : am_tbl Ls xs 128 183 = some (o_iload 2 1) := (m_128 183).trans rfl
set_option maxRecDepth 20000 in
theorem t_128_184 {Ls : Nat} {xs : Nat → Int32} : am_tbl Ls xs 128 184 = some (o_iald 1) := (m_128 184).trans rfl
set_option maxRecDepth 20000 in
theorem t_128_185 {Ls : Nat} {xs : Nat → Int32} : am_tbl Ls xs 128 185 = some (o_iast 1 (fun x => x)) := (m_128 185).trans rfl
set_option maxRecDepth 20000 in
theorem t_128_186 {Ls : Nat} {xs : Nat → Int32} : am_tbl Ls xs 128 186 = some (o_aload 0 1) := (m_128 186).trans rfl
set_option maxRecDepth 20000 in
theorem t_128_187 {Ls : Nat} {xs : Nat → Int32} : am_tbl Ls xs 128 187 = some (o_get 2 13) := (m_128 187).trans rfl
set_option maxRecDepth 20000 in
theorem t_128_190 {Ls : Nat} {xs : Nat → Int32} : am_tbl Ls xs 128 190 = some (o_iload 2 1) := (m_128 190).trans rfl
set_option maxRecDepth 20000 in
theorem t_128_191 {Ls : Nat} {xs : Nat → Int32} : am_tbl Ls xs 128 191 = some (o_aload 1 1) := (m_128 191).trans rfl
set_option maxRecDepth 20000 in
theorem t_128_192 {Ls : Nat} {xs : Nat → Int32} : am_tbl Ls xs 128 192 = some (o_get 2 13) := (m_128 192).trans rfl
set_option maxRecDepth 20000 in
theorem t_128_195 {Ls : Nat} {xs : Nat → Int32} : am_tbl Ls xs 128 195 = some (o_iload 2 1) := (m_128 195).trans rfl
set_option maxRecDepth 20000 in
theorem t_128_196 {Ls : Nat} {xs : Nat → Int32} : am_tbl Ls xs 128 196 = some (o_iald 1) := (m_128 196).trans rfl
set_option maxRecDepth 20000 in
theorem t_128_197 {Ls : Nat} {xs : Nat → Int32} : am_tbl Ls xs 128 197 = some (o_iast 1 (fun x => x)) := (m_128 197).trans rfl
set_option maxRecDepth 20000 in
theorem t_128_198 {Ls : Nat} {xs : Nat → Int32} : am_tbl Ls xs 128 198 = some (o_iinc 2 1) := (m_128 198).trans rfl
set_option maxRecDepth 20000 in
theorem t_128_201 {Ls : Nat} {xs : Nat → Int32} : am_tbl Ls xs 128 201 = some (o_goto 156) := (m_128 201).trans rfl
set_option maxRecDepth 20000 in
theorem t_128_204 {Ls : Nat} {xs : Nat → Int32} : am_tbl Ls xs 128 204 = some (o_vret) := (m_128 204).trans rfl
theorem m_129 {Ls : Nat} {xs : Nat → Int32} (pc : Nat) : am_tbl Ls xs 129 pc = am_lk (op_X2_measure) pc := rfl
theorem t_129_0 {Ls : Nat} {xs : Nat → Int32} : am_tbl Ls xs 129 0 = some (o_iload 1 1) := (m_129 0).trans rfl
theorem t_129_1 {Ls : Nat} {xs : Nat → Int32} : am_tbl Ls xs 129 1 = some (o_push (.int 1) 1) := (m_129 1).trans rfl
theorem t_129_2 {Ls : Nat} {xs : Nat → Int32} : am_tbl Ls xs 129 2 = some (o_icmp (fun x y => decide (x < y)) 30) := (m_129 2).trans rfl
theorem t_129_5 {Ls : Nat} {xs : Nat → Int32} : am_tbl Ls xs 129 5 = some (o_iload 2 1) := (m_129 5).trans rfl
theorem t_129_6 {Ls : Nat} {xs : Nat → Int32} : am_tbl Ls xs 129 6 = some (o_push (.int 1) 1) := (m_129 6).trans rfl
theorem t_129_7 {Ls : Nat} {xs : Nat → Int32} : am_tbl Ls xs 129 7 = some (o_icmp (fun x y => decide (x < y)) 30) := (m_129 7).trans rfl
theorem t_129_10 {Ls : Nat} {xs : Nat → Int32} : am_tbl Ls xs 129 10 = some (o_iload 1 1) := (m_129 10).trans rfl
theorem t_129_11 {Ls : Nat} {xs : Nat → Int32} : am_tbl Ls xs 129 11 = some (o_push (.int 9) 2) := (m_129 11).trans rfl
theorem t_129_13 {Ls : Nat} {xs : Nat → Int32} : am_tbl Ls xs 129 13 = some (o_icmp (fun x y => decide (y < x)) 30) := (m_129 13).trans rfl
theorem t_129_16 {Ls : Nat} {xs : Nat → Int32} : am_tbl Ls xs 129 16 = some (o_iload 2 1) := (m_129 16).trans rfl
theorem t_129_17 {Ls : Nat} {xs : Nat → Int32} : am_tbl Ls xs 129 17 = some (o_push (.int 9) 2) := (m_129 17).trans rfl
theorem t_129_19 {Ls : Nat} {xs : Nat → Int32} : am_tbl Ls xs 129 19 = some (o_icmp (fun x y => decide (y < x)) 30) := (m_129 19).trans rfl
theorem t_129_22 {Ls : Nat} {xs : Nat → Int32} : am_tbl Ls xs 129 22 = some (o_iload 1 1) := (m_129 22).trans rfl
theorem t_129_23 {Ls : Nat} {xs : Nat → Int32} : am_tbl Ls xs 129 23 = some (o_iload 2 1) := (m_129 23).trans rfl
theorem t_129_24 {Ls : Nat} {xs : Nat → Int32} : am_tbl Ls xs 129 24 = some (o_ibin (fun x y => x * y)) := (m_129 24).trans rfl
theorem t_129_25 {Ls : Nat} {xs : Nat → Int32} : am_tbl Ls xs 129 25 = some (o_push (.int 48) 2) := (m_129 25).trans rfl
theorem t_129_27 {Ls : Nat} {xs : Nat → Int32} : am_tbl Ls xs 129 27 = some (o_icmp (fun x y => decide (x ≤ y)) 31) := (m_129 27).trans rfl
theorem t_129_30 {Ls : Nat} {xs : Nat → Int32} : am_tbl Ls xs 129 30 = some (o_nrm [] (o_vret)) := (m_129 30).trans rfl
theorem t_129_31 {Ls : Nat} {xs : Nat → Int32} : am_tbl Ls xs 129 31 = some (o_aload 0 1) := (m_129 31).trans rfl
theorem t_129_32 {Ls : Nat} {xs : Nat → Int32} : am_tbl Ls xs 129 32 = some (o_iload 1 1) := (m_129 32).trans rfl
theorem t_129_33 {Ls : Nat} {xs : Nat → Int32} : am_tbl Ls xs 129 33 = some (o_puti 2 0) := (m_129 33).trans rfl
theorem t_129_36 {Ls : Nat} {xs : Nat → Int32} : am_tbl Ls xs 129 36 = some (o_aload 0 1) := (m_129 36).trans rfl
theorem t_129_37 {Ls : Nat} {xs : Nat → Int32} : am_tbl Ls xs 129 37 = some (o_iload 2 1) := (m_129 37).trans rfl
theorem t_129_38 {Ls : Nat} {xs : Nat → Int32} : am_tbl Ls xs 129 38 = some (o_puti 2 1) := (m_129 38).trans rfl
theorem t_129_41 {Ls : Nat} {xs : Nat → Int32} : am_tbl Ls xs 129 41 = some (o_aload 0 1) := (m_129 41).trans rfl
theorem t_129_42 {Ls : Nat} {xs : Nat → Int32} : am_tbl Ls xs 129 42 = some (o_iload 1 1) := (m_129 42).trans rfl
theorem t_129_43 {Ls : Nat} {xs : Nat → Int32} : am_tbl Ls xs 129 43 = some (o_iload 2 1) := (m_129 43).trans rfl
theorem t_129_44 {Ls : Nat} {xs : Nat → Int32} : am_tbl Ls xs 129 44 = some (o_ibin (fun x y => x * y)) := (m_129 44).trans rfl
theorem t_129_45 {Ls : Nat} {xs : Nat → Int32} : am_tbl Ls xs 129 45 = some (o_puti 2 2) := (m_129 45).trans rfl
theorem t_129_48 {Ls : Nat} {xs : Nat → Int32} : am_tbl Ls xs 129 48 = some (o_push (.int 0) 1) := (m_129 48).trans rfl
theorem t_129_49 {Ls : Nat} {xs : Nat → Int32} : am_tbl Ls xs 129 49 = some (o_istore 3 1) := (m_129 49).trans rfl
theorem t_129_50 {Ls : Nat} {xs : Nat → Int32} : am_tbl Ls xs 129 50 = some (o_nrm [0, 1, 2, 3] (o_iload 3 1)) := (m_129 50).trans rfl
theorem t_129_51 {Ls : Nat} {xs : Nat → Int32} : am_tbl Ls xs 129 51 = some (o_iload 2 1) := (m_129 51).trans rfl
theorem t_129_52 {Ls : Nat} {xs : Nat → Int32} : am_tbl Ls xs 129 52 = some (o_icmp (fun x y => decide (y ≤ x)) 101) := (m_129 52).trans rfl
theorem t_129_55 {Ls : Nat} {xs : Nat → Int32} : am_tbl Ls xs 129 55 = some (o_push (.int 0) 1) := (m_129 55).trans rfl
theorem t_129_56 {Ls : Nat} {xs : Nat → Int32} : am_tbl Ls xs 129 56 = some (o_istore 4 2) := (m_129 56).trans rfl
theorem t_129_58 {Ls : Nat} {xs : Nat → Int32} : am_tbl Ls xs 129 58 = some (o_nrm [0, 1, 2, 3, 4] (o_iload 4 2)) := (m_129 58).trans rfl
theorem t_129_60 {Ls : Nat} {xs : Nat → Int32} : am_tbl Ls xs 129 60 = some (o_iload 1 1) := (m_129 60).trans rfl
theorem t_129_61 {Ls : Nat} {xs : Nat → Int32} : am_tbl Ls xs 129 61 = some (o_icmp (fun x y => decide (y ≤ x)) 95) := (m_129 61).trans rfl
theorem t_129_64 {Ls : Nat} {xs : Nat → Int32} : am_tbl Ls xs 129 64 = some (o_aload 0 1) := (m_129 64).trans rfl
theorem t_129_65 {Ls : Nat} {xs : Nat → Int32} : am_tbl Ls xs 129 65 = some (o_get 2 12) := (m_129 65).trans rfl
theorem t_129_68 {Ls : Nat} {xs : Nat → Int32} : am_tbl Ls xs 129 68 = some (o_iload 3 1) := (m_129 68).trans rfl
theorem t_129_69 {Ls : Nat} {xs : Nat → Int32} : am_tbl Ls xs 129 69 = some (o_iload 1 1) := (m_129 69).trans rfl
theorem t_129_70 {Ls : Nat} {xs : Nat → Int32} : am_tbl Ls xs 129 70 = some (o_ibin (fun x y => x * y)) := (m_129 70).trans rfl
theorem t_129_71 {Ls : Nat} {xs : Nat → Int32} : am_tbl Ls xs 129 71 = some (o_iload 4 2) := (m_129 71).trans rfl
theorem t_129_73 {Ls : Nat} {xs : Nat → Int32} : am_tbl Ls xs 129 73 = some (o_ibin (fun x y => x + y)) := (m_129 73).trans rfl
theorem t_129_74 {Ls : Nat} {xs : Nat → Int32} : am_tbl Ls xs 129 74 = some (o_iload 4 2) := (m_129 74).trans rfl
theorem t_129_76 {Ls : Nat} {xs : Nat → Int32} : am_tbl Ls xs 129 76 = some (o_iast 1 (fun x => x)) := (m_129 76).trans rfl
theorem t_129_77 {Ls : Nat} {xs : Nat → Int32} : am_tbl Ls xs 129 77 = some (o_aload 0 1) := (m_129 77).trans rfl
theorem t_129_78 {Ls : Nat} {xs : Nat → Int32} : am_tbl Ls xs 129 78 = some (o_get 2 13) := (m_129 78).trans rfl
theorem t_129_81 {Ls : Nat} {xs : Nat → Int32} : am_tbl Ls xs 129 81 = some (o_iload 3 1) := (m_129 81).trans rfl
theorem t_129_82 {Ls : Nat} {xs : Nat → Int32} : am_tbl Ls xs 129 82 = some (o_iload 1 1) := (m_129 82).trans rfl
theorem t_129_83 {Ls : Nat} {xs : Nat → Int32} : am_tbl Ls xs 129 83 = some (o_ibin (fun x y => x * y)) := (m_129 83).trans rfl
theorem t_129_84 {Ls : Nat} {xs : Nat → Int32} : am_tbl Ls xs 129 84 = some (o_iload 4 2) := (m_129 84).trans rfl
theorem t_129_86 {Ls : Nat} {xs : Nat → Int32} : am_tbl Ls xs 129 86 = some (o_ibin (fun x y => x + y)) := (m_129 86).trans rfl
theorem t_129_87 {Ls : Nat} {xs : Nat → Int32} : am_tbl Ls xs 129 87 = some (o_iload 3 1) := (m_129 87).trans rfl
theorem t_129_88 {Ls : Nat} {xs : Nat → Int32} : am_tbl Ls xs 129 88 = some (o_iast 1 (fun x => x)) := (m_129 88).trans rfl
theorem t_129_89 {Ls : Nat} {xs : Nat → Int32} : am_tbl Ls xs 129 89 = some (o_iinc 4 1) := (m_129 89).trans rfl
theorem t_129_92 {Ls : Nat} {xs : Nat → Int32} : am_tbl Ls xs 129 92 = some (o_goto 58) := (m_129 92).trans rfl
theorem t_129_95 {Ls : Nat} {xs : Nat → Int32} : am_tbl Ls xs 129 95 = some (o_iinc 3 1) := (m_129 95).trans rfl
theorem t_129_98 {Ls : Nat} {xs : Nat → Int32} : am_tbl Ls xs 129 98 = some (o_goto 50) := (m_129 98).trans rfl
set_option maxRecDepth 20000 in
theorem t_129_101 {Ls : Nat} {xs : Nat → Int32} : am_tbl Ls xs 129 101 = some (o_vret) := (m_129 101).trans rfl
theorem m_130 {Ls : Nat} {xs : Nat → Int32} (pc : Nat) : am_tbl Ls xs 130 pc = am_lk (op_X2_addHouse) pc := rfl
theorem t_130_0 {Ls : Nat} {xs : Nat → Int32} : am_tbl Ls xs 130 0 = some (o_aload 0 1) := (m_130 0).trans rfl
theorem t_130_1 {Ls : Nat} {xs : Nat → Int32} : am_tbl Ls xs 130 1 = some (o_iload 1 1) := (m_130 1).trans rfl
theorem t_130_2 {Ls : Nat} {xs : Nat → Int32} : am_tbl Ls xs 130 2 = some (o_callv 133 1 2 2) := (m_130 2).trans rfl
theorem t_130_5 {Ls : Nat} {xs : Nat → Int32} : am_tbl Ls xs 130 5 = some (o_if (fun x => decide (x = 0)) 15) := (m_130 5).trans rfl
theorem t_130_8 {Ls : Nat} {xs : Nat → Int32} : am_tbl Ls xs 130 8 = some (o_aload 0 1) := (m_130 8).trans rfl
theorem t_130_9 {Ls : Nat} {xs : Nat → Int32} : am_tbl Ls xs 130 9 = some (o_get 2 11) := (m_130 9).trans rfl
theorem t_130_12 {Ls : Nat} {xs : Nat → Int32} : am_tbl Ls xs 130 12 = some (o_iload 1 1) := (m_130 12).trans rfl
theorem t_130_13 {Ls : Nat} {xs : Nat → Int32} : am_tbl Ls xs 130 13 = some (o_iload 2 1) := (m_130 13).trans rfl
theorem t_130_14 {Ls : Nat} {xs : Nat → Int32} : am_tbl Ls xs 130 14 = some (o_iast 1 (fun x => x)) := (m_130 14).trans rfl
theorem t_130_15 {Ls : Nat} {xs : Nat → Int32} : am_tbl Ls xs 130 15 = some (o_nrm [] (o_vret)) := (m_130 15).trans rfl
theorem m_131 {Ls : Nat} {xs : Nat → Int32} (pc : Nat) : am_tbl Ls xs 131 pc = am_lk (op_X2_addHour) pc := rfl
theorem t_131_0 {Ls : Nat} {xs : Nat → Int32} : am_tbl Ls xs 131 0 = some (o_aload 0 1) := (m_131 0).trans rfl
theorem t_131_1 {Ls : Nat} {xs : Nat → Int32} : am_tbl Ls xs 131 1 = some (o_get 2 3) := (m_131 1).trans rfl
theorem t_131_4 {Ls : Nat} {xs : Nat → Int32} : am_tbl Ls xs 131 4 = some (o_push (.int 6) 2) := (m_131 4).trans rfl
theorem t_131_6 {Ls : Nat} {xs : Nat → Int32} : am_tbl Ls xs 131 6 = some (o_icmp (fun x y => decide (x < y)) 10) := (m_131 6).trans rfl
theorem t_131_9 {Ls : Nat} {xs : Nat → Int32} : am_tbl Ls xs 131 9 = some (o_vret) := (m_131 9).trans rfl
theorem t_131_10 {Ls : Nat} {xs : Nat → Int32} : am_tbl Ls xs 131 10 = some (o_push (.int 0) 1) := (m_131 10).trans rfl
theorem t_131_11 {Ls : Nat} {xs : Nat → Int32} : am_tbl Ls xs 131 11 = some (o_istore 5 2) := (m_131 11).trans rfl
theorem t_131_13 {Ls : Nat} {xs : Nat → Int32} : am_tbl Ls xs 131 13 = some (o_nrm [0, 1, 2, 3, 4, 5] (o_iload 5 2)) := (m_131 13).trans rfl
theorem t_131_15 {Ls : Nat} {xs : Nat → Int32} : am_tbl Ls xs 131 15 = some (o_aload 0 1) := (m_131 15).trans rfl
theorem t_131_16 {Ls : Nat} {xs : Nat → Int32} : am_tbl Ls xs 131 16 = some (o_get 2 2) := (m_131 16).trans rfl
theorem t_131_19 {Ls : Nat} {xs : Nat → Int32} : am_tbl Ls xs 131 19 = some (o_icmp (fun x y => decide (y ≤ x)) 62) := (m_131 19).trans rfl
theorem t_131_22 {Ls : Nat} {xs : Nat → Int32} : am_tbl Ls xs 131 22 = some (o_aload 0 1) := (m_131 22).trans rfl
theorem t_131_23 {Ls : Nat} {xs : Nat → Int32} : am_tbl Ls xs 131 23 = some (o_get 2 6) := (m_131 23).trans rfl
theorem t_131_26 {Ls : Nat} {xs : Nat → Int32} : am_tbl Ls xs 131 26 = some (o_aload 0 1) := (m_131 26).trans rfl
theorem t_131_27 {Ls : Nat} {xs : Nat → Int32} : am_tbl Ls xs 131 27 = some (o_get 2 3) := (m_131 27).trans rfl
theorem t_131_30 {Ls : Nat} {xs : Nat → Int32} : am_tbl Ls xs 131 30 = some (o_aald) := (m_131 30).trans rfl
theorem t_131_31 {Ls : Nat} {xs : Nat → Int32} : am_tbl Ls xs 131 31 = some (o_iload 5 2) := (m_131 31).trans rfl
theorem t_131_33 {Ls : Nat} {xs : Nat → Int32} : am_tbl Ls xs 131 33 = some (o_aload 0 1) := (m_131 33).trans rfl
theorem t_131_34 {Ls : Nat} {xs : Nat → Int32} : am_tbl Ls xs 131 34 = some (o_aload 0 1) := (m_131 34).trans rfl
theorem t_131_35 {Ls : Nat} {xs : Nat → Int32} : am_tbl Ls xs 131 35 = some (o_get 2 12) := (m_131 35).trans rfl
theorem t_131_38 {Ls : Nat} {xs : Nat → Int32} : am_tbl Ls xs 131 38 = some (o_iload 5 2) := (m_131 38).trans rfl
theorem t_131_40 {Ls : Nat} {xs : Nat → Int32} : am_tbl Ls xs 131 40 = some (o_iald 1) := (m_131 40).trans rfl
theorem t_131_41 {Ls : Nat} {xs : Nat → Int32} : am_tbl Ls xs 131 41 = some (o_iload 1 1) := (m_131 41).trans rfl
theorem t_131_42 {Ls : Nat} {xs : Nat → Int32} : am_tbl Ls xs 131 42 = some (o_ibin (fun x y => x + y)) := (m_131 42).trans rfl
theorem t_131_43 {Ls : Nat} {xs : Nat → Int32} : am_tbl Ls xs 131 43 = some (o_aload 0 1) := (m_131 43).trans rfl
theorem t_131_44 {Ls : Nat} {xs : Nat → Int32} : am_tbl Ls xs 131 44 = some (o_get 2 13) := (m_131 44).trans rfl
theorem t_131_47 {Ls : Nat} {xs : Nat → Int32} : am_tbl Ls xs 131 47 = some (o_iload 5 2) := (m_131 47).trans rfl
theorem t_131_49 {Ls : Nat} {xs : Nat → Int32} : am_tbl Ls xs 131 49 = some (o_iald 1) := (m_131 49).trans rfl
theorem t_131_50 {Ls : Nat} {xs : Nat → Int32} : am_tbl Ls xs 131 50 = some (o_iload 2 1) := (m_131 50).trans rfl
theorem t_131_51 {Ls : Nat} {xs : Nat → Int32} : am_tbl Ls xs 131 51 = some (o_ibin (fun x y => x + y)) := (m_131 51).trans rfl
theorem t_131_52 {Ls : Nat} {xs : Nat → Int32} : am_tbl Ls xs 131 52 = some (o_callv 137 2 2 3) := (m_131 52).trans rfl
theorem t_131_55 {Ls : Nat} {xs : Nat → Int32} : am_tbl Ls xs 131 55 = some (o_iast 1 (fun x => x)) := (m_131 55).trans rfl
theorem t_131_56 {Ls : Nat} {xs : Nat → Int32} : am_tbl Ls xs 131 56 = some (o_iinc 5 1) := (m_131 56).trans rfl
theorem t_131_59 {Ls : Nat} {xs : Nat → Int32} : am_tbl Ls xs 131 59 = some (o_goto 13) := (m_131 59).trans rfl
theorem t_131_62 {Ls : Nat} {xs : Nat → Int32} : am_tbl Ls xs 131 62 = some (o_aload 0 1) := (m_131 62).trans rfl
theorem t_131_63 {Ls : Nat} {xs : Nat → Int32} : am_tbl Ls xs 131 63 = some (o_get 2 7) := (m_131 63).trans rfl
theorem t_131_66 {Ls : Nat} {xs : Nat → Int32} : am_tbl Ls xs 131 66 = some (o_aload 0 1) := (m_131 66).trans rfl
theorem t_131_67 {Ls : Nat} {xs : Nat → Int32} : am_tbl Ls xs 131 67 = some (o_get 2 3) := (m_131 67).trans rfl
theorem t_131_70 {Ls : Nat} {xs : Nat → Int32} : am_tbl Ls xs 131 70 = some (o_iload 3 1) := (m_131 70).trans rfl
theorem t_131_71 {Ls : Nat} {xs : Nat → Int32} : am_tbl Ls xs 131 71 = some (o_iast 1 (fun x => x)) := (m_131 71).trans rfl
theorem t_131_72 {Ls : Nat} {xs : Nat → Int32} : am_tbl Ls xs 131 72 = some (o_aload 0 1) := (m_131 72).trans rfl
theorem t_131_73 {Ls : Nat} {xs : Nat → Int32} : am_tbl Ls xs 131 73 = some (o_get 2 8) := (m_131 73).trans rfl
theorem t_131_76 {Ls : Nat} {xs : Nat → Int32} : am_tbl Ls xs 131 76 = some (o_aload 0 1) := (m_131 76).trans rfl
theorem t_131_77 {Ls : Nat} {xs : Nat → Int32} : am_tbl Ls xs 131 77 = some (o_get 2 3) := (m_131 77).trans rfl
theorem t_131_80 {Ls : Nat} {xs : Nat → Int32} : am_tbl Ls xs 131 80 = some (o_iload 4 2) := (m_131 80).trans rfl
theorem t_131_82 {Ls : Nat} {xs : Nat → Int32} : am_tbl Ls xs 131 82 = some (o_iast 1 (fun x => x)) := (m_131 82).trans rfl
theorem t_131_83 {Ls : Nat} {xs : Nat → Int32} : am_tbl Ls xs 131 83 = some (o_aload 0 1) := (m_131 83).trans rfl
theorem t_131_84 {Ls : Nat} {xs : Nat → Int32} : am_tbl Ls xs 131 84 = some (o_dup) := (m_131 84).trans rfl
theorem t_131_85 {Ls : Nat} {xs : Nat → Int32} : am_tbl Ls xs 131 85 = some (o_get 2 3) := (m_131 85).trans rfl
theorem t_131_88 {Ls : Nat} {xs : Nat → Int32} : am_tbl Ls xs 131 88 = some (o_push (.int 1) 1) := (m_131 88).trans rfl
theorem t_131_89 {Ls : Nat} {xs : Nat → Int32} : am_tbl Ls xs 131 89 = some (o_ibin (fun x y => x + y)) := (m_131 89).trans rfl
theorem t_131_90 {Ls : Nat} {xs : Nat → Int32} : am_tbl Ls xs 131 90 = some (o_puti 2 3) := (m_131 90).trans rfl
theorem t_131_93 {Ls : Nat} {xs : Nat → Int32} : am_tbl Ls xs 131 93 = some (o_vret) := (m_131 93).trans rfl
theorem m_132 {Ls : Nat} {xs : Nat → Int32} (pc : Nat) : am_tbl Ls xs 132 pc = am_lk (op_X2_addPerson) pc := rfl
theorem t_132_0 {Ls : Nat} {xs : Nat → Int32} : am_tbl Ls xs 132 0 = some (o_aload 0 1) := (m_132 0).trans rfl
theorem t_132_1 {Ls : Nat} {xs : Nat → Int32} : am_tbl Ls xs 132 1 = some (o_get 2 4) := (m_132 1).trans rfl
theorem t_132_4 {Ls : Nat} {xs : Nat → Int32} : am_tbl Ls xs 132 4 = some (o_push (.int 6) 2) := (m_132 4).trans rfl
theorem t_132_6 {Ls : Nat} {xs : Nat → Int32} : am_tbl Ls xs 132 6 = some (o_icmp (fun x y => decide (x < y)) 10) := (m_132 6).trans rfl
theorem t_132_9 {Ls : Nat} {xs : Nat → Int32} : am_tbl Ls xs 132 9 = some (o_vret) := (m_132 9).trans rfl
theorem t_132_10 {Ls : Nat} {xs : Nat → Int32} : am_tbl Ls xs 132 10 = some (o_aload 0 1) := (m_132 10).trans rfl
theorem t_132_11 {Ls : Nat} {xs : Nat → Int32} : am_tbl Ls xs 132 11 = some (o_get 2 9) := (m_132 11).trans rfl
theorem t_132_14 {Ls : Nat} {xs : Nat → Int32} : am_tbl Ls xs 132 14 = some (o_aload 0 1) := (m_132 14).trans rfl
theorem t_132_15 {Ls : Nat} {xs : Nat → Int32} : am_tbl Ls xs 132 15 = some (o_get 2 4) := (m_132 15).trans rfl
theorem t_132_18 {Ls : Nat} {xs : Nat → Int32} : am_tbl Ls xs 132 18 = some (o_iload 1 1) := (m_132 18).trans rfl
theorem t_132_19 {Ls : Nat} {xs : Nat → Int32} : am_tbl Ls xs 132 19 = some (o_iast 1 (fun x => x)) := (m_132 19).trans rfl
theorem t_132_20 {Ls : Nat} {xs : Nat → Int32} : am_tbl Ls xs 132 20 = some (o_aload 0 1) := (m_132 20).trans rfl
theorem t_132_21 {Ls : Nat} {xs : Nat → Int32} : am_tbl Ls xs 132 21 = some (o_get 2 10) := (m_132 21).trans rfl
theorem t_132_24 {Ls : Nat} {xs : Nat → Int32} : am_tbl Ls xs 132 24 = some (o_aload 0 1) := (m_132 24).trans rfl
theorem t_132_25 {Ls : Nat} {xs : Nat → Int32} : am_tbl Ls xs 132 25 = some (o_get 2 4) := (m_132 25).trans rfl
theorem t_132_28 {Ls : Nat} {xs : Nat → Int32} : am_tbl Ls xs 132 28 = some (o_iload 2 1) := (m_132 28).trans rfl
theorem t_132_29 {Ls : Nat} {xs : Nat → Int32} : am_tbl Ls xs 132 29 = some (o_iast 1 (fun x => x)) := (m_132 29).trans rfl
theorem t_132_30 {Ls : Nat} {xs : Nat → Int32} : am_tbl Ls xs 132 30 = some (o_aload 0 1) := (m_132 30).trans rfl
theorem t_132_31 {Ls : Nat} {xs : Nat → Int32} : am_tbl Ls xs 132 31 = some (o_dup) := (m_132 31).trans rfl
theorem t_132_32 {Ls : Nat} {xs : Nat → Int32} : am_tbl Ls xs 132 32 = some (o_get 2 4) := (m_132 32).trans rfl
theorem t_132_35 {Ls : Nat} {xs : Nat → Int32} : am_tbl Ls xs 132 35 = some (o_push (.int 1) 1) := (m_132 35).trans rfl
theorem t_132_36 {Ls : Nat} {xs : Nat → Int32} : am_tbl Ls xs 132 36 = some (o_ibin (fun x y => x + y)) := (m_132 36).trans rfl
theorem t_132_37 {Ls : Nat} {xs : Nat → Int32} : am_tbl Ls xs 132 37 = some (o_puti 2 4) := (m_132 37).trans rfl
theorem t_132_40 {Ls : Nat} {xs : Nat → Int32} : am_tbl Ls xs 132 40 = some (o_vret) := (m_132 40).trans rfl
theorem m_133 {Ls : Nat} {xs : Nat → Int32} (pc : Nat) : am_tbl Ls xs 133 pc = am_lk (op_X2_hasCell) pc := rfl
theorem t_133_0 {Ls : Nat} {xs : Nat → Int32} : am_tbl Ls xs 133 0 = some (o_iload 1 1) := (m_133 0).trans rfl
theorem t_133_1 {Ls : Nat} {xs : Nat → Int32} : am_tbl Ls xs 133 1 = some (o_if (fun x => decide (x < 0)) 16) := (m_133 1).trans rfl
theorem t_133_4 {Ls : Nat} {xs : Nat → Int32} : am_tbl Ls xs 133 4 = some (o_iload 1 1) := (m_133 4).trans rfl
theorem t_133_5 {Ls : Nat} {xs : Nat → Int32} : am_tbl Ls xs 133 5 = some (o_aload 0 1) := (m_133 5).trans rfl
theorem t_133_6 {Ls : Nat} {xs : Nat → Int32} : am_tbl Ls xs 133 6 = some (o_get 2 2) := (m_133 6).trans rfl
theorem t_133_9 {Ls : Nat} {xs : Nat → Int32} : am_tbl Ls xs 133 9 = some (o_icmp (fun x y => decide (y ≤ x)) 16) := (m_133 9).trans rfl
theorem t_133_12 {Ls : Nat} {xs : Nat → Int32} : am_tbl Ls xs 133 12 = some (o_push (.int 1) 1) := (m_133 12).trans rfl
theorem t_133_13 {Ls : Nat} {xs : Nat → Int32} : am_tbl Ls xs 133 13 = some (o_goto 17) := (m_133 13).trans rfl
theorem t_133_16 {Ls : Nat} {xs : Nat → Int32} : am_tbl Ls xs 133 16 = some (o_nrm [] (o_push (.int 0) 1)) := (m_133 16).trans rfl
theorem t_133_17 {Ls : Nat} {xs : Nat → Int32} : am_tbl Ls xs 133 17 = some (o_nrm [] (o_zret)) := (m_133 17).trans rfl
theorem m_134 {Ls : Nat} {xs : Nat → Int32} (pc : Nat) : am_tbl Ls xs 134 pc = am_lk (op_X2_hasHour) pc := rfl
theorem t_134_0 {Ls : Nat} {xs : Nat → Int32} : am_tbl Ls xs 134 0 = some (o_iload 1 1) := (m_134 0).trans rfl
theorem t_134_1 {Ls : Nat} {xs : Nat → Int32} : am_tbl Ls xs 134 1 = some (o_if (fun x => decide (x < 0)) 16) := (m_134 1).trans rfl
theorem t_134_4 {Ls : Nat} {xs : Nat → Int32} : am_tbl Ls xs 134 4 = some (o_iload 1 1) := (m_134 4).trans rfl
theorem t_134_5 {Ls : Nat} {xs : Nat → Int32} : am_tbl Ls xs 134 5 = some (o_aload 0 1) := (m_134 5).trans rfl
theorem t_134_6 {Ls : Nat} {xs : Nat → Int32} : am_tbl Ls xs 134 6 = some (o_get 2 3) := (m_134 6).trans rfl
theorem t_134_9 {Ls : Nat} {xs : Nat → Int32} : am_tbl Ls xs 134 9 = some (o_icmp (fun x y => decide (y ≤ x)) 16) := (m_134 9).trans rfl
theorem t_134_12 {Ls : Nat} {xs : Nat → Int32} : am_tbl Ls xs 134 12 = some (o_push (.int 1) 1) := (m_134 12).trans rfl
theorem t_134_13 {Ls : Nat} {xs : Nat → Int32} : am_tbl Ls xs 134 13 = some (o_goto 17) := (m_134 13).trans rfl
theorem t_134_16 {Ls : Nat} {xs : Nat → Int32} : am_tbl Ls xs 134 16 = some (o_nrm [] (o_push (.int 0) 1)) := (m_134 16).trans rfl
theorem t_134_17 {Ls : Nat} {xs : Nat → Int32} : am_tbl Ls xs 134 17 = some (o_nrm [] (o_zret)) := (m_134 17).trans rfl
theorem m_135 {Ls : Nat} {xs : Nat → Int32} (pc : Nat) : am_tbl Ls xs 135 pc = am_lk (op_X2_hasPerson) pc := rfl
theorem t_135_0 {Ls : Nat} {xs : Nat → Int32} : am_tbl Ls xs 135 0 = some (o_iload 1 1) := (m_135 0).trans rfl
theorem t_135_1 {Ls : Nat} {xs : Nat → Int32} : am_tbl Ls xs 135 1 = some (o_if (fun x => decide (x < 0)) 16) := (m_135 1).trans rfl
theorem t_135_4 {Ls : Nat} {xs : Nat → Int32} : am_tbl Ls xs 135 4 = some (o_iload 1 1) := (m_135 4).trans rfl
theorem t_135_5 {Ls : Nat} {xs : Nat → Int32} : am_tbl Ls xs 135 5 = some (o_aload 0 1) := (m_135 5).trans rfl
theorem t_135_6 {Ls : Nat} {xs : Nat → Int32} : am_tbl Ls xs 135 6 = some (o_get 2 4) := (m_135 6).trans rfl
theorem t_135_9 {Ls : Nat} {xs : Nat → Int32} : am_tbl Ls xs 135 9 = some (o_icmp (fun x y => decide (y ≤ x)) 16) := (m_135 9).trans rfl
theorem t_135_12 {Ls : Nat} {xs : Nat → Int32} : am_tbl Ls xs 135 12 = some (o_push (.int 1) 1) := (m_135 12).trans rfl
theorem t_135_13 {Ls : Nat} {xs : Nat → Int32} : am_tbl Ls xs 135 13 = some (o_goto 17) := (m_135 13).trans rfl
theorem t_135_16 {Ls : Nat} {xs : Nat → Int32} : am_tbl Ls xs 135 16 = some (o_nrm [] (o_push (.int 0) 1)) := (m_135 16).trans rfl
theorem t_135_17 {Ls : Nat} {xs : Nat → Int32} : am_tbl Ls xs 135 17 = some (o_nrm [] (o_zret)) := (m_135 17).trans rfl
theorem m_136 {Ls : Nat} {xs : Nat → Int32} (pc : Nat) : am_tbl Ls xs 136 pc = am_lk (op_X2_startsSomebodyOn) pc := rfl
theorem t_136_0 {Ls : Nat} {xs : Nat → Int32} : am_tbl Ls xs 136 0 = some (o_push (.int 0) 1) := (m_136 0).trans rfl
theorem t_136_1 {Ls : Nat} {xs : Nat → Int32} : am_tbl Ls xs 136 1 = some (o_istore 2 1) := (m_136 1).trans rfl
theorem t_136_2 {Ls : Nat} {xs : Nat → Int32} : am_tbl Ls xs 136 2 = some (o_nrm [0, 1, 2] (o_iload 2 1)) := (m_136 2).trans rfl
theorem t_136_3 {Ls : Nat} {xs : Nat → Int32} : am_tbl Ls xs 136 3 = some (o_aload 0 1) := (m_136 3).trans rfl
theorem t_136_4 {Ls : Nat} {xs : Nat → Int32} : am_tbl Ls xs 136 4 = some (o_get 2 4) := (m_136 4).trans rfl
theorem t_136_7 {Ls : Nat} {xs : Nat → Int32} : am_tbl Ls xs 136 7 = some (o_icmp (fun x y => decide (y ≤ x)) 28) := (m_136 7).trans rfl
theorem t_136_10 {Ls : Nat} {xs : Nat → Int32} : am_tbl Ls xs 136 10 = some (o_aload 0 1) := (m_136 10).trans rfl
theorem t_136_11 {Ls : Nat} {xs : Nat → Int32} : am_tbl Ls xs 136 11 = some (o_get 2 9) := (m_136 11).trans rfl
theorem t_136_14 {Ls : Nat} {xs : Nat → Int32} : am_tbl Ls xs 136 14 = some (o_iload 2 1) := (m_136 14).trans rfl
theorem t_136_15 {Ls : Nat} {xs : Nat → Int32} : am_tbl Ls xs 136 15 = some (o_iald 1) := (m_136 15).trans rfl
theorem t_136_16 {Ls : Nat} {xs : Nat → Int32} : am_tbl Ls xs 136 16 = some (o_iload 1 1) := (m_136 16).trans rfl
theorem t_136_17 {Ls : Nat} {xs : Nat → Int32} : am_tbl Ls xs 136 17 = some (o_icmp (fun x y => decide (x ≠ y)) 22) := (m_136 17).trans rfl
theorem t_136_20 {Ls : Nat} {xs : Nat → Int32} : am_tbl Ls xs 136 20 = some (o_push (.int 1) 1) := (m_136 20).trans rfl
theorem t_136_21 {Ls : Nat} {xs : Nat → Int32} : am_tbl Ls xs 136 21 = some (o_zret) := (m_136 21).trans rfl
theorem t_136_22 {Ls : Nat} {xs : Nat → Int32} : am_tbl Ls xs 136 22 = some (o_iinc 2 1) := (m_136 22).trans rfl
theorem t_136_25 {Ls : Nat} {xs : Nat → Int32} : am_tbl Ls xs 136 25 = some (o_goto 2) := (m_136 25).trans rfl
theorem t_136_28 {Ls : Nat} {xs : Nat → Int32} : am_tbl Ls xs 136 28 = some (o_push (.int 0) 1) := (m_136 28).trans rfl
theorem t_136_29 {Ls : Nat} {xs : Nat → Int32} : am_tbl Ls xs 136 29 = some (o_zret) := (m_136 29).trans rfl
theorem m_137 {Ls : Nat} {xs : Nat → Int32} (pc : Nat) : am_tbl Ls xs 137 pc = am_lk (op_X2_cellAt) pc := rfl
theorem t_137_0 {Ls : Nat} {xs : Nat → Int32} : am_tbl Ls xs 137 0 = some (o_iload 1 1) := (m_137 0).trans rfl
theorem t_137_1 {Ls : Nat} {xs : Nat → Int32} : am_tbl Ls xs 137 1 = some (o_if (fun x => decide (x < 0)) 24) := (m_137 1).trans rfl
theorem t_137_4 {Ls : Nat} {xs : Nat → Int32} : am_tbl Ls xs 137 4 = some (o_iload 2 1) := (m_137 4).trans rfl
theorem t_137_5 {Ls : Nat} {xs : Nat → Int32} : am_tbl Ls xs 137 5 = some (o_if (fun x => decide (x < 0)) 24) := (m_137 5).trans rfl
theorem t_137_8 {Ls : Nat} {xs : Nat → Int32} : am_tbl Ls xs 137 8 = some (o_iload 1 1) := (m_137 8).trans rfl
theorem t_137_9 {Ls : Nat} {xs : Nat → Int32} : am_tbl Ls xs 137 9 = some (o_aload 0 1) := (m_137 9).trans rfl
theorem t_137_10 {Ls : Nat} {xs : Nat → Int32} : am_tbl Ls xs 137 10 = some (o_get 2 0) := (m_137 10).trans rfl
theorem t_137_13 {Ls : Nat} {xs : Nat → Int32} : am_tbl Ls xs 137 13 = some (o_icmp (fun x y => decide (y ≤ x)) 24) := (m_137 13).trans rfl
theorem t_137_16 {Ls : Nat} {xs : Nat → Int32} : am_tbl Ls xs 137 16 = some (o_iload 2 1) := (m_137 16).trans rfl
theorem t_137_17 {Ls : Nat} {xs : Nat → Int32} : am_tbl Ls xs 137 17 = some (o_aload 0 1) := (m_137 17).trans rfl
theorem t_137_18 {Ls : Nat} {xs : Nat → Int32} : am_tbl Ls xs 137 18 = some (o_get 2 1) := (m_137 18).trans rfl
theorem t_137_21 {Ls : Nat} {xs : Nat → Int32} : am_tbl Ls xs 137 21 = some (o_icmp (fun x y => decide (x < y)) 26) := (m_137 21).trans rfl
theorem t_137_24 {Ls : Nat} {xs : Nat → Int32} : am_tbl Ls xs 137 24 = some (o_nrm [] (o_push (.int (-1)) 1)) := (m_137 24).trans rfl
theorem t_137_25 {Ls : Nat} {xs : Nat → Int32} : am_tbl Ls xs 137 25 = some (o_iret) := (m_137 25).trans rfl
theorem t_137_26 {Ls : Nat} {xs : Nat → Int32} : am_tbl Ls xs 137 26 = some (o_iload 2 1) := (m_137 26).trans rfl
theorem t_137_27 {Ls : Nat} {xs : Nat → Int32} : am_tbl Ls xs 137 27 = some (o_aload 0 1) := (m_137 27).trans rfl
theorem t_137_28 {Ls : Nat} {xs : Nat → Int32} : am_tbl Ls xs 137 28 = some (o_get 2 0) := (m_137 28).trans rfl
theorem t_137_31 {Ls : Nat} {xs : Nat → Int32} : am_tbl Ls xs 137 31 = some (o_ibin (fun x y => x * y)) := (m_137 31).trans rfl
theorem t_137_32 {Ls : Nat} {xs : Nat → Int32} : am_tbl Ls xs 137 32 = some (o_iload 1 1) := (m_137 32).trans rfl
theorem t_137_33 {Ls : Nat} {xs : Nat → Int32} : am_tbl Ls xs 137 33 = some (o_ibin (fun x y => x + y)) := (m_137 33).trans rfl
theorem t_137_34 {Ls : Nat} {xs : Nat → Int32} : am_tbl Ls xs 137 34 = some (o_iret) := (m_137 34).trans rfl
theorem m_138 {Ls : Nat} {xs : Nat → Int32} (pc : Nat) : am_tbl Ls xs 138 pc = am_lk (op_X2_columnOf) pc := rfl
theorem t_138_0 {Ls : Nat} {xs : Nat → Int32} : am_tbl Ls xs 138 0 = some (o_aload 0 1) := (m_138 0).trans rfl
theorem t_138_1 {Ls : Nat} {xs : Nat → Int32} : am_tbl Ls xs 138 1 = some (o_iload 1 1) := (m_138 1).trans rfl
theorem t_138_2 {Ls : Nat} {xs : Nat → Int32} : am_tbl Ls xs 138 2 = some (o_callv 133 1 2 2) := (m_138 2).trans rfl
theorem t_138_5 {Ls : Nat} {xs : Nat → Int32} : am_tbl Ls xs 138 5 = some (o_if (fun x => decide (x = 0)) 17) := (m_138 5).trans rfl
theorem t_138_8 {Ls : Nat} {xs : Nat → Int32} : am_tbl Ls xs 138 8 = some (o_aload 0 1) := (m_138 8).trans rfl
theorem t_138_9 {Ls : Nat} {xs : Nat → Int32} : am_tbl Ls xs 138 9 = some (o_get 2 12) := (m_138 9).trans rfl
theorem t_138_12 {Ls : Nat} {xs : Nat → Int32} : am_tbl Ls xs 138 12 = some (o_iload 1 1) := (m_138 12).trans rfl
theorem t_138_13 {Ls : Nat} {xs : Nat → Int32} : am_tbl Ls xs 138 13 = some (o_iald 1) := (m_138 13).trans rfl
theorem t_138_14 {Ls : Nat} {xs : Nat → Int32} : am_tbl Ls xs 138 14 = some (o_goto 18) := (m_138 14).trans rfl
theorem t_138_17 {Ls : Nat} {xs : Nat → Int32} : am_tbl Ls xs 138 17 = some (o_push (.int (-1)) 1) := (m_138 17).trans rfl
theorem t_138_18 {Ls : Nat} {xs : Nat → Int32} : am_tbl Ls xs 138 18 = some (o_nrm [] (o_iret)) := (m_138 18).trans rfl
theorem m_139 {Ls : Nat} {xs : Nat → Int32} (pc : Nat) : am_tbl Ls xs 139 pc = am_lk (op_X2_lineOf) pc := rfl
theorem t_139_0 {Ls : Nat} {xs : Nat → Int32} : am_tbl Ls xs 139 0 = some (o_aload 0 1) := (m_139 0).trans rfl
theorem t_139_1 {Ls : Nat} {xs : Nat → Int32} : am_tbl Ls xs 139 1 = some (o_iload 1 1) := (m_139 1).trans rfl
theorem t_139_2 {Ls : Nat} {xs : Nat → Int32} : am_tbl Ls xs 139 2 = some (o_callv 133 1 2 2) := (m_139 2).trans rfl
theorem t_139_5 {Ls : Nat} {xs : Nat → Int32} : am_tbl Ls xs 139 5 = some (o_if (fun x => decide (x = 0)) 17) := (m_139 5).trans rfl
theorem t_139_8 {Ls : Nat} {xs : Nat → Int32} : am_tbl Ls xs 139 8 = some (o_aload 0 1) := (m_139 8).trans rfl
theorem t_139_9 {Ls : Nat} {xs : Nat → Int32} : am_tbl Ls xs 139 9 = some (o_get 2 13) := (m_139 9).trans rfl
theorem t_139_12 {Ls : Nat} {xs : Nat → Int32} : am_tbl Ls xs 139 12 = some (o_iload 1 1) := (m_139 12).trans rfl
theorem t_139_13 {Ls : Nat} {xs : Nat → Int32} : am_tbl Ls xs 139 13 = some (o_iald 1) := (m_139 13).trans rfl
theorem t_139_14 {Ls : Nat} {xs : Nat → Int32} : am_tbl Ls xs 139 14 = some (o_goto 18) := (m_139 14).trans rfl
theorem t_139_17 {Ls : Nat} {xs : Nat → Int32} : am_tbl Ls xs 139 17 = some (o_push (.int (-1)) 1) := (m_139 17).trans rfl
theorem t_139_18 {Ls : Nat} {xs : Nat → Int32} : am_tbl Ls xs 139 18 = some (o_nrm [] (o_iret)) := (m_139 18).trans rfl
theorem m_140 {Ls : Nat} {xs : Nat → Int32} (pc : Nat) : am_tbl Ls xs 140 pc = am_lk (op_X2_nameOf) pc := rfl
theorem t_140_0 {Ls : Nat} {xs : Nat → Int32} : am_tbl Ls xs 140 0 = some (o_aload 0 1) := (m_140 0).trans rfl
theorem t_140_1 {Ls : Nat} {xs : Nat → Int32} : am_tbl Ls xs 140 1 = some (o_iload 1 1) := (m_140 1).trans rfl
theorem t_140_2 {Ls : Nat} {xs : Nat → Int32} : am_tbl Ls xs 140 2 = some (o_callv 133 1 2 2) := (m_140 2).trans rfl
theorem t_140_5 {Ls : Nat} {xs : Nat → Int32} : am_tbl Ls xs 140 5 = some (o_if (fun x => decide (x = 0)) 27) := (m_140 5).trans rfl
theorem t_140_8 {Ls : Nat} {xs : Nat → Int32} : am_tbl Ls xs 140 8 = some (o_push (.int 10) 2) := (m_140 8).trans rfl
theorem t_140_10 {Ls : Nat} {xs : Nat → Int32} : am_tbl Ls xs 140 10 = some (o_aload 0 1) := (m_140 10).trans rfl
theorem t_140_11 {Ls : Nat} {xs : Nat → Int32} : am_tbl Ls xs 140 11 = some (o_get 2 12) := (m_140 11).trans rfl
theorem t_140_14 {Ls : Nat} {xs : Nat → Int32} : am_tbl Ls xs 140 14 = some (o_iload 1 1) := (m_140 14).trans rfl
theorem t_140_15 {Ls : Nat} {xs : Nat → Int32} : am_tbl Ls xs 140 15 = some (o_iald 1) := (m_140 15).trans rfl
theorem t_140_16 {Ls : Nat} {xs : Nat → Int32} : am_tbl Ls xs 140 16 = some (o_ibin (fun x y => x * y)) := (m_140 16).trans rfl
theorem t_140_17 {Ls : Nat} {xs : Nat → Int32} : am_tbl Ls xs 140 17 = some (o_aload 0 1) := (m_140 17).trans rfl
theorem t_140_18 {Ls : Nat} {xs : Nat → Int32} : am_tbl Ls xs 140 18 = some (o_get 2 13) := (m_140 18).trans rfl
theorem t_140_21 {Ls : Nat} {xs : Nat → Int32} : am_tbl Ls xs 140 21 = some (o_iload 1 1) := (m_140 21).trans rfl
theorem t_140_22 {Ls : Nat} {xs : Nat → Int32} : am_tbl Ls xs 140 22 = some (o_iald 1) := (m_140 22).trans rfl
theorem t_140_23 {Ls : Nat} {xs : Nat → Int32} : am_tbl Ls xs 140 23 = some (o_ibin (fun x y => x + y)) := (m_140 23).trans rfl
theorem t_140_24 {Ls : Nat} {xs : Nat → Int32} : am_tbl Ls xs 140 24 = some (o_goto 28) := (m_140 24).trans rfl
theorem t_140_27 {Ls : Nat} {xs : Nat → Int32} : am_tbl Ls xs 140 27 = some (o_push (.int (-1)) 1) := (m_140 27).trans rfl
theorem t_140_28 {Ls : Nat} {xs : Nat → Int32} : am_tbl Ls xs 140 28 = some (o_nrm [] (o_iret)) := (m_140 28).trans rfl
theorem m_141 {Ls : Nat} {xs : Nat → Int32} (pc : Nat) : am_tbl Ls xs 141 pc = am_lk (op_X2_allShares) pc := rfl
theorem t_141_0 {Ls : Nat} {xs : Nat → Int32} : am_tbl Ls xs 141 0 = some (o_push (.int 0) 1) := (m_141 0).trans rfl
theorem t_141_1 {Ls : Nat} {xs : Nat → Int32} : am_tbl Ls xs 141 1 = some (o_istore 1 1) := (m_141 1).trans rfl
theorem t_141_2 {Ls : Nat} {xs : Nat → Int32} : am_tbl Ls xs 141 2 = some (o_push (.int 0) 1) := (m_141 2).trans rfl
theorem t_141_3 {Ls : Nat} {xs : Nat → Int32} : am_tbl Ls xs 141 3 = some (o_istore 2 1) := (m_141 3).trans rfl
theorem t_141_4 {Ls : Nat} {xs : Nat → Int32} : am_tbl Ls xs 141 4 = some (o_nrm [0, 1, 2] (o_iload 2 1)) := (m_141 4).trans rfl
theorem t_141_5 {Ls : Nat} {xs : Nat → Int32} : am_tbl Ls xs 141 5 = some (o_aload 0 1) := (m_141 5).trans rfl
theorem t_141_6 {Ls : Nat} {xs : Nat → Int32} : am_tbl Ls xs 141 6 = some (o_get 2 3) := (m_141 6).trans rfl
theorem t_141_9 {Ls : Nat} {xs : Nat → Int32} : am_tbl Ls xs 141 9 = some (o_icmp (fun x y => decide (y ≤ x)) 27) := (m_141 9).trans rfl
theorem t_141_12 {Ls : Nat} {xs : Nat → Int32} : am_tbl Ls xs 141 12 = some (o_iload 1 1) := (m_141 12).trans rfl
theorem t_141_13 {Ls : Nat} {xs : Nat → Int32} : am_tbl Ls xs 141 13 = some (o_aload 0 1) := (m_141 13).trans rfl
theorem t_141_14 {Ls : Nat} {xs : Nat → Int32} : am_tbl Ls xs 141 14 = some (o_get 2 8) := (m_141 14).trans rfl
theorem t_141_17 {Ls : Nat} {xs : Nat → Int32} : am_tbl Ls xs 141 17 = some (o_iload 2 1) := (m_141 17).trans rfl
theorem t_141_18 {Ls : Nat} {xs : Nat → Int32} : am_tbl Ls xs 141 18 = some (o_iald 1) := (m_141 18).trans rfl
theorem t_141_19 {Ls : Nat} {xs : Nat → Int32} : am_tbl Ls xs 141 19 = some (o_ibin (fun x y => x + y)) := (m_141 19).trans rfl
theorem t_141_20 {Ls : Nat} {xs : Nat → Int32} : am_tbl Ls xs 141 20 = some (o_istore 1 1) := (m_141 20).trans rfl
theorem t_141_21 {Ls : Nat} {xs : Nat → Int32} : am_tbl Ls xs 141 21 = some (o_iinc 2 1) := (m_141 21).trans rfl
theorem t_141_24 {Ls : Nat} {xs : Nat → Int32} : am_tbl Ls xs 141 24 = some (o_goto 4) := (m_141 24).trans rfl
theorem t_141_27 {Ls : Nat} {xs : Nat → Int32} : am_tbl Ls xs 141 27 = some (o_iload 1 1) := (m_141 27).trans rfl
theorem t_141_28 {Ls : Nat} {xs : Nat → Int32} : am_tbl Ls xs 141 28 = some (o_iret) := (m_141 28).trans rfl
theorem m_142 {Ls : Nat} {xs : Nat → Int32} (pc : Nat) : am_tbl Ls xs 142 pc = am_lk (op_X2_hourOfShare) pc := rfl
theorem t_142_0 {Ls : Nat} {xs : Nat → Int32} : am_tbl Ls xs 142 0 = some (o_push (.int 0) 1) := (m_142 0).trans rfl
theorem t_142_1 {Ls : Nat} {xs : Nat → Int32} : am_tbl Ls xs 142 1 = some (o_istore 2 1) := (m_142 1).trans rfl
theorem t_142_2 {Ls : Nat} {xs : Nat → Int32} : am_tbl Ls xs 142 2 = some (o_push (.int 0) 1) := (m_142 2).trans rfl
theorem t_142_3 {Ls : Nat} {xs : Nat → Int32} : am_tbl Ls xs 142 3 = some (o_istore 3 1) := (m_142 3).trans rfl
theorem t_142_4 {Ls : Nat} {xs : Nat → Int32} : am_tbl Ls xs 142 4 = some (o_nrm [0, 1, 2, 3] (o_iload 3 1)) := (m_142 4).trans rfl
theorem t_142_5 {Ls : Nat} {xs : Nat → Int32} : am_tbl Ls xs 142 5 = some (o_aload 0 1) := (m_142 5).trans rfl
theorem t_142_6 {Ls : Nat} {xs : Nat → Int32} : am_tbl Ls xs 142 6 = some (o_get 2 3) := (m_142 6).trans rfl
theorem t_142_9 {Ls : Nat} {xs : Nat → Int32} : am_tbl Ls xs 142 9 = some (o_icmp (fun x y => decide (y ≤ x)) 34) := (m_142 9).trans rfl
theorem t_142_12 {Ls : Nat} {xs : Nat → Int32} : am_tbl Ls xs 142 12 = some (o_iload 2 1) := (m_142 12).trans rfl
theorem t_142_13 {Ls : Nat} {xs : Nat → Int32} : am_tbl Ls xs 142 13 = some (o_aload 0 1) := (m_142 13).trans rfl
theorem t_142_14 {Ls : Nat} {xs : Nat → Int32} : am_tbl Ls xs 142 14 = some (o_get 2 8) := (m_142 14).trans rfl
theorem t_142_17 {Ls : Nat} {xs : Nat → Int32} : am_tbl Ls xs 142 17 = some (o_iload 3 1) := (m_142 17).trans rfl
theorem t_142_18 {Ls : Nat} {xs : Nat → Int32} : am_tbl Ls xs 142 18 = some (o_iald 1) := (m_142 18).trans rfl
theorem t_142_19 {Ls : Nat} {xs : Nat → Int32} : am_tbl Ls xs 142 19 = some (o_ibin (fun x y => x + y)) := (m_142 19).trans rfl
theorem t_142_20 {Ls : Nat} {xs : Nat → Int32} : am_tbl Ls xs 142 20 = some (o_istore 2 1) := (m_142 20).trans rfl
theorem t_142_21 {Ls : Nat} {xs : Nat → Int32} : am_tbl Ls xs 142 21 = some (o_iload 2 1) := (m_142 21).trans rfl
theorem t_142_22 {Ls : Nat} {xs : Nat → Int32} : am_tbl Ls xs 142 22 = some (o_iload 1 1) := (m_142 22).trans rfl
theorem t_142_23 {Ls : Nat} {xs : Nat → Int32} : am_tbl Ls xs 142 23 = some (o_icmp (fun x y => decide (x ≤ y)) 28) := (m_142 23).trans rfl
theorem t_142_26 {Ls : Nat} {xs : Nat → Int32} : am_tbl Ls xs 142 26 = some (o_iload 3 1) := (m_142 26).trans rfl
theorem t_142_27 {Ls : Nat} {xs : Nat → Int32} : am_tbl Ls xs 142 27 = some (o_iret) := (m_142 27).trans rfl
theorem t_142_28 {Ls : Nat} {xs : Nat → Int32} : am_tbl Ls xs 142 28 = some (o_iinc 3 1) := (m_142 28).trans rfl
theorem t_142_31 {Ls : Nat} {xs : Nat → Int32} : am_tbl Ls xs 142 31 = some (o_goto 4) := (m_142 31).trans rfl
theorem t_142_34 {Ls : Nat} {xs : Nat → Int32} : am_tbl Ls xs 142 34 = some (o_push (.int (-1)) 1) := (m_142 34).trans rfl
theorem t_142_35 {Ls : Nat} {xs : Nat → Int32} : am_tbl Ls xs 142 35 = some (o_iret) := (m_142 35).trans rfl
