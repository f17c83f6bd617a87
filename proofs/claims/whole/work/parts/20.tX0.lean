/-! THE TABLES BY PLACE -/
theorem m_111 {Ls : Nat} {xs : Nat → Int32} (pc : Nat) : am_tbl Ls xs 111 pc = am_lk (op_X0_worthOf) pc := rfl
theorem t_111_0 {Ls : Nat} {xs : Nat → Int32} : am_tbl Ls xs 111 0 = some (o_aload 0 1) := (m_111 0).trans rfl
theorem t_111_1 {Ls : Nat} {xs : Nat → Int32} : am_tbl Ls xs 111 1 = some (o_get 0 1) := (m_111 1).trans rfl
theorem t_111_4 {Ls : Nat} {xs : Nat → Int32} : am_tbl Ls xs 111 4 = some (o_iload 1 1) := (m_111 4).trans rfl
theorem t_111_5 {Ls : Nat} {xs : Nat → Int32} : am_tbl Ls xs 111 5 = some (o_callv 135 1 2 2) := (m_111 5).trans rfl
theorem t_111_8 {Ls : Nat} {xs : Nat → Int32} : am_tbl Ls xs 111 8 = some (o_if (fun x => decide (x = 0)) 22) := (m_111 8).trans rfl
theorem t_111_11 {Ls : Nat} {xs : Nat → Int32} : am_tbl Ls xs 111 11 = some (o_aload 0 1) := (m_111 11).trans rfl
theorem t_111_12 {Ls : Nat} {xs : Nat → Int32} : am_tbl Ls xs 111 12 = some (o_get 0 1) := (m_111 12).trans rfl
theorem t_111_15 {Ls : Nat} {xs : Nat → Int32} : am_tbl Ls xs 111 15 = some (o_iload 2 1) := (m_111 15).trans rfl
theorem t_111_16 {Ls : Nat} {xs : Nat → Int32} : am_tbl Ls xs 111 16 = some (o_callv 135 1 2 2) := (m_111 16).trans rfl
theorem t_111_19 {Ls : Nat} {xs : Nat → Int32} : am_tbl Ls xs 111 19 = some (o_if (fun x => decide (x ≠ 0)) 24) := (m_111 19).trans rfl
theorem t_111_22 {Ls : Nat} {xs : Nat → Int32} : am_tbl Ls xs 111 22 = some (o_nrm [] (o_push (.int 0) 1)) := (m_111 22).trans rfl
theorem t_111_23 {Ls : Nat} {xs : Nat → Int32} : am_tbl Ls xs 111 23 = some (o_iret) := (m_111 23).trans rfl
theorem t_111_24 {Ls : Nat} {xs : Nat → Int32} : am_tbl Ls xs 111 24 = some (o_iload 1 1) := (m_111 24).trans rfl
theorem t_111_25 {Ls : Nat} {xs : Nat → Int32} : am_tbl Ls xs 111 25 = some (o_iload 2 1) := (m_111 25).trans rfl
theorem t_111_26 {Ls : Nat} {xs : Nat → Int32} : am_tbl Ls xs 111 26 = some (o_mth (fun x y => if y < x then y else x)) := (m_111 26).trans rfl
theorem t_111_29 {Ls : Nat} {xs : Nat → Int32} : am_tbl Ls xs 111 29 = some (o_istore 3 1) := (m_111 29).trans rfl
theorem t_111_30 {Ls : Nat} {xs : Nat → Int32} : am_tbl Ls xs 111 30 = some (o_iload 1 1) := (m_111 30).trans rfl
theorem t_111_31 {Ls : Nat} {xs : Nat → Int32} : am_tbl Ls xs 111 31 = some (o_iload 2 1) := (m_111 31).trans rfl
theorem t_111_32 {Ls : Nat} {xs : Nat → Int32} : am_tbl Ls xs 111 32 = some (o_mth (fun x y => if x < y then y else x)) := (m_111 32).trans rfl
theorem t_111_35 {Ls : Nat} {xs : Nat → Int32} : am_tbl Ls xs 111 35 = some (o_istore 4 2) := (m_111 35).trans rfl
theorem t_111_37 {Ls : Nat} {xs : Nat → Int32} : am_tbl Ls xs 111 37 = some (o_aload 0 1) := (m_111 37).trans rfl
theorem t_111_38 {Ls : Nat} {xs : Nat → Int32} : am_tbl Ls xs 111 38 = some (o_get 0 0) := (m_111 38).trans rfl
theorem t_111_41 {Ls : Nat} {xs : Nat → Int32} : am_tbl Ls xs 111 41 = some (o_iload 1 1) := (m_111 41).trans rfl
theorem t_111_42 {Ls : Nat} {xs : Nat → Int32} : am_tbl Ls xs 111 42 = some (o_callv 170 1 5 2) := (m_111 42).trans rfl
theorem t_111_45 {Ls : Nat} {xs : Nat → Int32} : am_tbl Ls xs 111 45 = some (o_aload 0 1) := (m_111 45).trans rfl
theorem t_111_46 {Ls : Nat} {xs : Nat → Int32} : am_tbl Ls xs 111 46 = some (o_get 0 0) := (m_111 46).trans rfl
theorem t_111_49 {Ls : Nat} {xs : Nat → Int32} : am_tbl Ls xs 111 49 = some (o_iload 2 1) := (m_111 49).trans rfl
theorem t_111_50 {Ls : Nat} {xs : Nat → Int32} : am_tbl Ls xs 111 50 = some (o_callv 170 1 5 2) := (m_111 50).trans rfl
theorem t_111_53 {Ls : Nat} {xs : Nat → Int32} : am_tbl Ls xs 111 53 = some (o_mth (fun x y => if x < y then y else x)) := (m_111 53).trans rfl
theorem t_111_56 {Ls : Nat} {xs : Nat → Int32} : am_tbl Ls xs 111 56 = some (o_istore 5 2) := (m_111 56).trans rfl
theorem t_111_58 {Ls : Nat} {xs : Nat → Int32} : am_tbl Ls xs 111 58 = some (o_aload 0 1) := (m_111 58).trans rfl
theorem t_111_59 {Ls : Nat} {xs : Nat → Int32} : am_tbl Ls xs 111 59 = some (o_get 0 0) := (m_111 59).trans rfl
theorem t_111_62 {Ls : Nat} {xs : Nat → Int32} : am_tbl Ls xs 111 62 = some (o_iload 3 1) := (m_111 62).trans rfl
theorem t_111_63 {Ls : Nat} {xs : Nat → Int32} : am_tbl Ls xs 111 63 = some (o_aload 0 1) := (m_111 63).trans rfl
theorem t_111_64 {Ls : Nat} {xs : Nat → Int32} : am_tbl Ls xs 111 64 = some (o_get 0 2) := (m_111 64).trans rfl
theorem t_111_67 {Ls : Nat} {xs : Nat → Int32} : am_tbl Ls xs 111 67 = some (o_get 6 0) := (m_111 67).trans rfl
theorem t_111_70 {Ls : Nat} {xs : Nat → Int32} : am_tbl Ls xs 111 70 = some (o_iload 3 1) := (m_111 70).trans rfl
theorem t_111_71 {Ls : Nat} {xs : Nat → Int32} : am_tbl Ls xs 111 71 = some (o_iald 1) := (m_111 71).trans rfl
theorem t_111_72 {Ls : Nat} {xs : Nat → Int32} : am_tbl Ls xs 111 72 = some (o_iload 5 2) := (m_111 72).trans rfl
theorem t_111_74 {Ls : Nat} {xs : Nat → Int32} : am_tbl Ls xs 111 74 = some (o_iload 4 2) := (m_111 74).trans rfl
theorem t_111_76 {Ls : Nat} {xs : Nat → Int32} : am_tbl Ls xs 111 76 = some (o_callv 177 4 5 7) := (m_111 76).trans rfl
theorem t_111_79 {Ls : Nat} {xs : Nat → Int32} : am_tbl Ls xs 111 79 = some (o_istore 6 2) := (m_111 79).trans rfl
theorem t_111_81 {Ls : Nat} {xs : Nat → Int32} : am_tbl Ls xs 111 81 = some (o_aload 0 1) := (m_111 81).trans rfl
theorem t_111_82 {Ls : Nat} {xs : Nat → Int32} : am_tbl Ls xs 111 82 = some (o_get 0 0) := (m_111 82).trans rfl
theorem t_111_85 {Ls : Nat} {xs : Nat → Int32} : am_tbl Ls xs 111 85 = some (o_iload 3 1) := (m_111 85).trans rfl
theorem t_111_86 {Ls : Nat} {xs : Nat → Int32} : am_tbl Ls xs 111 86 = some (o_aload 0 1) := (m_111 86).trans rfl
theorem t_111_87 {Ls : Nat} {xs : Nat → Int32} : am_tbl Ls xs 111 87 = some (o_get 0 2) := (m_111 87).trans rfl
theorem t_111_90 {Ls : Nat} {xs : Nat → Int32} : am_tbl Ls xs 111 90 = some (o_get 6 0) := (m_111 90).trans rfl
theorem t_111_93 {Ls : Nat} {xs : Nat → Int32} : am_tbl Ls xs 111 93 = some (o_iload 4 2) := (m_111 93).trans rfl
theorem t_111_95 {Ls : Nat} {xs : Nat → Int32} : am_tbl Ls xs 111 95 = some (o_iald 1) := (m_111 95).trans rfl
theorem t_111_96 {Ls : Nat} {xs : Nat → Int32} : am_tbl Ls xs 111 96 = some (o_iload 5 2) := (m_111 96).trans rfl
theorem t_111_98 {Ls : Nat} {xs : Nat → Int32} : am_tbl Ls xs 111 98 = some (o_iload 4 2) := (m_111 98).trans rfl
theorem t_111_100 {Ls : Nat} {xs : Nat → Int32} : am_tbl Ls xs 111 100 = some (o_callv 177 4 5 7) := (m_111 100).trans rfl
theorem t_111_103 {Ls : Nat} {xs : Nat → Int32} : am_tbl Ls xs 111 103 = some (o_istore 7 2) := (m_111 103).trans rfl
theorem t_111_105 {Ls : Nat} {xs : Nat → Int32} : am_tbl Ls xs 111 105 = some (o_aload 0 1) := (m_111 105).trans rfl
theorem t_111_106 {Ls : Nat} {xs : Nat → Int32} : am_tbl Ls xs 111 106 = some (o_get 0 0) := (m_111 106).trans rfl
theorem t_111_109 {Ls : Nat} {xs : Nat → Int32} : am_tbl Ls xs 111 109 = some (o_iload 1 1) := (m_111 109).trans rfl
theorem t_111_110 {Ls : Nat} {xs : Nat → Int32} : am_tbl Ls xs 111 110 = some (o_callv 178 1 5 2) := (m_111 110).trans rfl
theorem t_111_113 {Ls : Nat} {xs : Nat → Int32} : am_tbl Ls xs 111 113 = some (o_aload 0 1) := (m_111 113).trans rfl
theorem t_111_114 {Ls : Nat} {xs : Nat → Int32} : am_tbl Ls xs 111 114 = some (o_get 0 0) := (m_111 114).trans rfl
theorem t_111_117 {Ls : Nat} {xs : Nat → Int32} : am_tbl Ls xs 111 117 = some (o_iload 2 1) := (m_111 117).trans rfl
set_option maxRecDepth 20000 in
theorem t_111_118 {Ls : Nat} {xs : Nat → Int32} : am_tbl Ls xs 111 118 = some (o_callv 178 1 5 2) := (m_111 118).trans rfl
set_option maxRecDepth 20000 in
theorem t_111_121 {Ls : Nat} {xs : Nat → Int32} : am_tbl Ls xs 111 121 = some (o_ibin (fun x y => x + y)) := (m_111 121).trans rfl
set_option maxRecDepth 20000 in
theorem t_111_122 {Ls : Nat} {xs : Nat → Int32} : am_tbl Ls xs 111 122 = some (o_iload 6 2) := (m_111 122).trans rfl
set_option maxRecDepth 20000 in
theorem t_111_124 {Ls : Nat} {xs : Nat → Int32} : am_tbl Ls xs 111 124 = some (o_iload 7 2) := (m_111 124).trans rfl
set_option maxRecDepth 20000 in
theorem t_111_126 {Ls : Nat} {xs : Nat → Int32} : am_tbl Ls xs 111 126 = some (o_mth (fun x y => if y < x then y else x)) := (m_111 126).trans rfl
set_option maxRecDepth 20000 in
theorem t_111_129 {Ls : Nat} {xs : Nat → Int32} : am_tbl Ls xs 111 129 = some (o_ibin (fun x y => x - y)) := (m_111 129).trans rfl
set_option maxRecDepth 20000 in
theorem t_111_130 {Ls : Nat} {xs : Nat → Int32} : am_tbl Ls xs 111 130 = some (o_iret) := (m_111 130).trans rfl
theorem m_112 {Ls : Nat} {xs : Nat → Int32} (pc : Nat) : am_tbl Ls xs 112 pc = am_lk (op_X0_weighAll) pc := rfl
theorem t_112_0 {Ls : Nat} {xs : Nat → Int32} : am_tbl Ls xs 112 0 = some (o_push (.int 0) 1) := (m_112 0).trans rfl
theorem t_112_1 {Ls : Nat} {xs : Nat → Int32} : am_tbl Ls xs 112 1 = some (o_istore 1 1) := (m_112 1).trans rfl
theorem t_112_2 {Ls : Nat} {xs : Nat → Int32} : am_tbl Ls xs 112 2 = some (o_nrm [0, 1] (o_iload 1 1)) := (m_112 2).trans rfl
theorem t_112_3 {Ls : Nat} {xs : Nat → Int32} : am_tbl Ls xs 112 3 = some (o_aload 0 1) := (m_112 3).trans rfl
theorem t_112_4 {Ls : Nat} {xs : Nat → Int32} : am_tbl Ls xs 112 4 = some (o_get 0 1) := (m_112 4).trans rfl
theorem t_112_7 {Ls : Nat} {xs : Nat → Int32} : am_tbl Ls xs 112 7 = some (o_get 2 4) := (m_112 7).trans rfl
theorem t_112_10 {Ls : Nat} {xs : Nat → Int32} : am_tbl Ls xs 112 10 = some (o_icmp (fun x y => decide (y ≤ x)) 54) := (m_112 10).trans rfl
theorem t_112_13 {Ls : Nat} {xs : Nat → Int32} : am_tbl Ls xs 112 13 = some (o_iload 1 1) := (m_112 13).trans rfl
theorem t_112_14 {Ls : Nat} {xs : Nat → Int32} : am_tbl Ls xs 112 14 = some (o_push (.int 1) 1) := (m_112 14).trans rfl
theorem t_112_15 {Ls : Nat} {xs : Nat → Int32} : am_tbl Ls xs 112 15 = some (o_ibin (fun x y => x + y)) := (m_112 15).trans rfl
theorem t_112_16 {Ls : Nat} {xs : Nat → Int32} : am_tbl Ls xs 112 16 = some (o_istore 2 1) := (m_112 16).trans rfl
theorem t_112_17 {Ls : Nat} {xs : Nat → Int32} : am_tbl Ls xs 112 17 = some (o_nrm [0, 1, 2] (o_iload 2 1)) := (m_112 17).trans rfl
theorem t_112_18 {Ls : Nat} {xs : Nat → Int32} : am_tbl Ls xs 112 18 = some (o_aload 0 1) := (m_112 18).trans rfl
theorem t_112_19 {Ls : Nat} {xs : Nat → Int32} : am_tbl Ls xs 112 19 = some (o_get 0 1) := (m_112 19).trans rfl
theorem t_112_22 {Ls : Nat} {xs : Nat → Int32} : am_tbl Ls xs 112 22 = some (o_get 2 4) := (m_112 22).trans rfl
theorem t_112_25 {Ls : Nat} {xs : Nat → Int32} : am_tbl Ls xs 112 25 = some (o_icmp (fun x y => decide (y ≤ x)) 48) := (m_112 25).trans rfl
theorem t_112_28 {Ls : Nat} {xs : Nat → Int32} : am_tbl Ls xs 112 28 = some (o_aload 0 1) := (m_112 28).trans rfl
theorem t_112_29 {Ls : Nat} {xs : Nat → Int32} : am_tbl Ls xs 112 29 = some (o_get 0 3) := (m_112 29).trans rfl
theorem t_112_32 {Ls : Nat} {xs : Nat → Int32} : am_tbl Ls xs 112 32 = some (o_iload 1 1) := (m_112 32).trans rfl
theorem t_112_33 {Ls : Nat} {xs : Nat → Int32} : am_tbl Ls xs 112 33 = some (o_aald) := (m_112 33).trans rfl
theorem t_112_34 {Ls : Nat} {xs : Nat → Int32} : am_tbl Ls xs 112 34 = some (o_iload 2 1) := (m_112 34).trans rfl
theorem t_112_35 {Ls : Nat} {xs : Nat → Int32} : am_tbl Ls xs 112 35 = some (o_aload 0 1) := (m_112 35).trans rfl
theorem t_112_36 {Ls : Nat} {xs : Nat → Int32} : am_tbl Ls xs 112 36 = some (o_iload 1 1) := (m_112 36).trans rfl
theorem t_112_37 {Ls : Nat} {xs : Nat → Int32} : am_tbl Ls xs 112 37 = some (o_iload 2 1) := (m_112 37).trans rfl
theorem t_112_38 {Ls : Nat} {xs : Nat → Int32} : am_tbl Ls xs 112 38 = some (o_callv 111 2 0 8) := (m_112 38).trans rfl
theorem t_112_41 {Ls : Nat} {xs : Nat → Int32} : am_tbl Ls xs 112 41 = some (o_iast 1 (fun x => x)) := (m_112 41).trans rfl
theorem t_112_42 {Ls : Nat} {xs : Nat → Int32} : am_tbl Ls xs 112 42 = some (o_iinc 2 1) := (m_112 42).trans rfl
theorem t_112_45 {Ls : Nat} {xs : Nat → Int32} : am_tbl Ls xs 112 45 = some (o_goto 17) := (m_112 45).trans rfl
theorem t_112_48 {Ls : Nat} {xs : Nat → Int32} : am_tbl Ls xs 112 48 = some (o_iinc 1 1) := (m_112 48).trans rfl
theorem t_112_51 {Ls : Nat} {xs : Nat → Int32} : am_tbl Ls xs 112 51 = some (o_goto 2) := (m_112 51).trans rfl
theorem t_112_54 {Ls : Nat} {xs : Nat → Int32} : am_tbl Ls xs 112 54 = some (o_push (.int 1) 1) := (m_112 54).trans rfl
theorem t_112_55 {Ls : Nat} {xs : Nat → Int32} : am_tbl Ls xs 112 55 = some (o_istore 1 1) := (m_112 55).trans rfl
theorem t_112_56 {Ls : Nat} {xs : Nat → Int32} : am_tbl Ls xs 112 56 = some (o_nrm [0, 1] (o_iload 1 1)) := (m_112 56).trans rfl
theorem t_112_57 {Ls : Nat} {xs : Nat → Int32} : am_tbl Ls xs 112 57 = some (o_push (.int 1) 1) := (m_112 57).trans rfl
theorem t_112_58 {Ls : Nat} {xs : Nat → Int32} : am_tbl Ls xs 112 58 = some (o_aload 0 1) := (m_112 58).trans rfl
theorem t_112_59 {Ls : Nat} {xs : Nat → Int32} : am_tbl Ls xs 112 59 = some (o_get 0 1) := (m_112 59).trans rfl
theorem t_112_62 {Ls : Nat} {xs : Nat → Int32} : am_tbl Ls xs 112 62 = some (o_get 2 4) := (m_112 62).trans rfl
theorem t_112_65 {Ls : Nat} {xs : Nat → Int32} : am_tbl Ls xs 112 65 = some (o_ibin (fun x y => x <<< (y &&& 31))) := (m_112 65).trans rfl
theorem t_112_66 {Ls : Nat} {xs : Nat → Int32} : am_tbl Ls xs 112 66 = some (o_icmp (fun x y => decide (y ≤ x)) 99) := (m_112 66).trans rfl
theorem t_112_69 {Ls : Nat} {xs : Nat → Int32} : am_tbl Ls xs 112 69 = some (o_aload 0 1) := (m_112 69).trans rfl
theorem t_112_70 {Ls : Nat} {xs : Nat → Int32} : am_tbl Ls xs 112 70 = some (o_iload 1 1) := (m_112 70).trans rfl
theorem t_112_71 {Ls : Nat} {xs : Nat → Int32} : am_tbl Ls xs 112 71 = some (o_callv 113 1 0 3) := (m_112 71).trans rfl
theorem t_112_74 {Ls : Nat} {xs : Nat → Int32} : am_tbl Ls xs 112 74 = some (o_istore 2 1) := (m_112 74).trans rfl
theorem t_112_75 {Ls : Nat} {xs : Nat → Int32} : am_tbl Ls xs 112 75 = some (o_aload 0 1) := (m_112 75).trans rfl
theorem t_112_76 {Ls : Nat} {xs : Nat → Int32} : am_tbl Ls xs 112 76 = some (o_get 0 4) := (m_112 76).trans rfl
theorem t_112_79 {Ls : Nat} {xs : Nat → Int32} : am_tbl Ls xs 112 79 = some (o_iload 1 1) := (m_112 79).trans rfl
theorem t_112_80 {Ls : Nat} {xs : Nat → Int32} : am_tbl Ls xs 112 80 = some (o_aload 0 1) := (m_112 80).trans rfl
theorem t_112_81 {Ls : Nat} {xs : Nat → Int32} : am_tbl Ls xs 112 81 = some (o_iload 1 1) := (m_112 81).trans rfl
theorem t_112_82 {Ls : Nat} {xs : Nat → Int32} : am_tbl Ls xs 112 82 = some (o_iload 2 1) := (m_112 82).trans rfl
theorem t_112_83 {Ls : Nat} {xs : Nat → Int32} : am_tbl Ls xs 112 83 = some (o_aload 0 1) := (m_112 83).trans rfl
theorem t_112_84 {Ls : Nat} {xs : Nat → Int32} : am_tbl Ls xs 112 84 = some (o_iload 1 1) := (m_112 84).trans rfl
theorem t_112_85 {Ls : Nat} {xs : Nat → Int32} : am_tbl Ls xs 112 85 = some (o_iload 2 1) := (m_112 85).trans rfl
theorem t_112_86 {Ls : Nat} {xs : Nat → Int32} : am_tbl Ls xs 112 86 = some (o_callv 115 2 0 6) := (m_112 86).trans rfl
theorem t_112_89 {Ls : Nat} {xs : Nat → Int32} : am_tbl Ls xs 112 89 = some (o_callv 114 3 0 5) := (m_112 89).trans rfl
theorem t_112_92 {Ls : Nat} {xs : Nat → Int32} : am_tbl Ls xs 112 92 = some (o_iast 1 (fun x => x)) := (m_112 92).trans rfl
theorem t_112_93 {Ls : Nat} {xs : Nat → Int32} : am_tbl Ls xs 112 93 = some (o_iinc 1 1) := (m_112 93).trans rfl
theorem t_112_96 {Ls : Nat} {xs : Nat → Int32} : am_tbl Ls xs 112 96 = some (o_goto 56) := (m_112 96).trans rfl
theorem t_112_99 {Ls : Nat} {xs : Nat → Int32} : am_tbl Ls xs 112 99 = some (o_vret) := (m_112 99).trans rfl
theorem m_113 {Ls : Nat} {xs : Nat → Int32} (pc : Nat) : am_tbl Ls xs 113 pc = am_lk (op_X0_lowestOf) pc := rfl
theorem t_113_0 {Ls : Nat} {xs : Nat → Int32} : am_tbl Ls xs 113 0 = some (o_push (.int 0) 1) := (m_113 0).trans rfl
theorem t_113_1 {Ls : Nat} {xs : Nat → Int32} : am_tbl Ls xs 113 1 = some (o_istore 2 1) := (m_113 1).trans rfl
theorem t_113_2 {Ls : Nat} {xs : Nat → Int32} : am_tbl Ls xs 113 2 = some (o_nrm [0, 1, 2] (o_iload 2 1)) := (m_113 2).trans rfl
theorem t_113_3 {Ls : Nat} {xs : Nat → Int32} : am_tbl Ls xs 113 3 = some (o_aload 0 1) := (m_113 3).trans rfl
theorem t_113_4 {Ls : Nat} {xs : Nat → Int32} : am_tbl Ls xs 113 4 = some (o_get 0 1) := (m_113 4).trans rfl
theorem t_113_7 {Ls : Nat} {xs : Nat → Int32} : am_tbl Ls xs 113 7 = some (o_get 2 4) := (m_113 7).trans rfl
theorem t_113_10 {Ls : Nat} {xs : Nat → Int32} : am_tbl Ls xs 113 10 = some (o_icmp (fun x y => decide (y ≤ x)) 29) := (m_113 10).trans rfl
theorem t_113_13 {Ls : Nat} {xs : Nat → Int32} : am_tbl Ls xs 113 13 = some (o_iload 1 1) := (m_113 13).trans rfl
theorem t_113_14 {Ls : Nat} {xs : Nat → Int32} : am_tbl Ls xs 113 14 = some (o_iload 2 1) := (m_113 14).trans rfl
theorem t_113_15 {Ls : Nat} {xs : Nat → Int32} : am_tbl Ls xs 113 15 = some (o_ibin (fun x y => x >>> (y &&& 31))) := (m_113 15).trans rfl
theorem t_113_16 {Ls : Nat} {xs : Nat → Int32} : am_tbl Ls xs 113 16 = some (o_push (.int 1) 1) := (m_113 16).trans rfl
theorem t_113_17 {Ls : Nat} {xs : Nat → Int32} : am_tbl Ls xs 113 17 = some (o_ibin (fun x y => x &&& y)) := (m_113 17).trans rfl
theorem t_113_18 {Ls : Nat} {xs : Nat → Int32} : am_tbl Ls xs 113 18 = some (o_if (fun x => decide (x = 0)) 23) := (m_113 18).trans rfl
theorem t_113_21 {Ls : Nat} {xs : Nat → Int32} : am_tbl Ls xs 113 21 = some (o_iload 2 1) := (m_113 21).trans rfl
theorem t_113_22 {Ls : Nat} {xs : Nat → Int32} : am_tbl Ls xs 113 22 = some (o_iret) := (m_113 22).trans rfl
theorem t_113_23 {Ls : Nat} {xs : Nat → Int32} : am_tbl Ls xs 113 23 = some (o_iinc 2 1) := (m_113 23).trans rfl
theorem t_113_26 {Ls : Nat} {xs : Nat → Int32} : am_tbl Ls xs 113 26 = some (o_goto 2) := (m_113 26).trans rfl
theorem t_113_29 {Ls : Nat} {xs : Nat → Int32} : am_tbl Ls xs 113 29 = some (o_push (.int (-1)) 1) := (m_113 29).trans rfl
theorem t_113_30 {Ls : Nat} {xs : Nat → Int32} : am_tbl Ls xs 113 30 = some (o_iret) := (m_113 30).trans rfl
theorem m_114 {Ls : Nat} {xs : Nat → Int32} (pc : Nat) : am_tbl Ls xs 114 pc = am_lk (op_X0_sumWith) pc := rfl
theorem t_114_0 {Ls : Nat} {xs : Nat → Int32} : am_tbl Ls xs 114 0 = some (o_aload 0 1) := (m_114 0).trans rfl
theorem t_114_1 {Ls : Nat} {xs : Nat → Int32} : am_tbl Ls xs 114 1 = some (o_get 0 1) := (m_114 1).trans rfl
theorem t_114_4 {Ls : Nat} {xs : Nat → Int32} : am_tbl Ls xs 114 4 = some (o_iload 2 1) := (m_114 4).trans rfl
theorem t_114_5 {Ls : Nat} {xs : Nat → Int32} : am_tbl Ls xs 114 5 = some (o_callv 135 1 2 2) := (m_114 5).trans rfl
theorem t_114_8 {Ls : Nat} {xs : Nat → Int32} : am_tbl Ls xs 114 8 = some (o_if (fun x => decide (x ≠ 0)) 13) := (m_114 8).trans rfl
theorem t_114_11 {Ls : Nat} {xs : Nat → Int32} : am_tbl Ls xs 114 11 = some (o_push (.int 0) 1) := (m_114 11).trans rfl
theorem t_114_12 {Ls : Nat} {xs : Nat → Int32} : am_tbl Ls xs 114 12 = some (o_iret) := (m_114 12).trans rfl
theorem t_114_13 {Ls : Nat} {xs : Nat → Int32} : am_tbl Ls xs 114 13 = some (o_iload 1 1) := (m_114 13).trans rfl
theorem t_114_14 {Ls : Nat} {xs : Nat → Int32} : am_tbl Ls xs 114 14 = some (o_push (.int 1) 1) := (m_114 14).trans rfl
theorem t_114_15 {Ls : Nat} {xs : Nat → Int32} : am_tbl Ls xs 114 15 = some (o_iload 2 1) := (m_114 15).trans rfl
theorem t_114_16 {Ls : Nat} {xs : Nat → Int32} : am_tbl Ls xs 114 16 = some (o_ibin (fun x y => x <<< (y &&& 31))) := (m_114 16).trans rfl
theorem t_114_17 {Ls : Nat} {xs : Nat → Int32} : am_tbl Ls xs 114 17 = some (o_push (.int (-1)) 1) := (m_114 17).trans rfl
theorem t_114_18 {Ls : Nat} {xs : Nat → Int32} : am_tbl Ls xs 114 18 = some (o_ibin (fun x y => x ^^^ y)) := (m_114 18).trans rfl
theorem t_114_19 {Ls : Nat} {xs : Nat → Int32} : am_tbl Ls xs 114 19 = some (o_ibin (fun x y => x &&& y)) := (m_114 19).trans rfl
theorem t_114_20 {Ls : Nat} {xs : Nat → Int32} : am_tbl Ls xs 114 20 = some (o_istore 4 2) := (m_114 20).trans rfl
theorem t_114_22 {Ls : Nat} {xs : Nat → Int32} : am_tbl Ls xs 114 22 = some (o_aload 0 1) := (m_114 22).trans rfl
theorem t_114_23 {Ls : Nat} {xs : Nat → Int32} : am_tbl Ls xs 114 23 = some (o_get 0 1) := (m_114 23).trans rfl
theorem t_114_26 {Ls : Nat} {xs : Nat → Int32} : am_tbl Ls xs 114 26 = some (o_iload 3 1) := (m_114 26).trans rfl
theorem t_114_27 {Ls : Nat} {xs : Nat → Int32} : am_tbl Ls xs 114 27 = some (o_callv 135 1 2 2) := (m_114 27).trans rfl
theorem t_114_30 {Ls : Nat} {xs : Nat → Int32} : am_tbl Ls xs 114 30 = some (o_if (fun x => decide (x ≠ 0)) 41) := (m_114 30).trans rfl
theorem t_114_33 {Ls : Nat} {xs : Nat → Int32} : am_tbl Ls xs 114 33 = some (o_aload 0 1) := (m_114 33).trans rfl
theorem t_114_34 {Ls : Nat} {xs : Nat → Int32} : am_tbl Ls xs 114 34 = some (o_get 0 4) := (m_114 34).trans rfl
theorem t_114_37 {Ls : Nat} {xs : Nat → Int32} : am_tbl Ls xs 114 37 = some (o_iload 4 2) := (m_114 37).trans rfl
theorem t_114_39 {Ls : Nat} {xs : Nat → Int32} : am_tbl Ls xs 114 39 = some (o_iald 1) := (m_114 39).trans rfl
theorem t_114_40 {Ls : Nat} {xs : Nat → Int32} : am_tbl Ls xs 114 40 = some (o_iret) := (m_114 40).trans rfl
theorem t_114_41 {Ls : Nat} {xs : Nat → Int32} : am_tbl Ls xs 114 41 = some (o_aload 0 1) := (m_114 41).trans rfl
theorem t_114_42 {Ls : Nat} {xs : Nat → Int32} : am_tbl Ls xs 114 42 = some (o_get 0 3) := (m_114 42).trans rfl
theorem t_114_45 {Ls : Nat} {xs : Nat → Int32} : am_tbl Ls xs 114 45 = some (o_iload 2 1) := (m_114 45).trans rfl
theorem t_114_46 {Ls : Nat} {xs : Nat → Int32} : am_tbl Ls xs 114 46 = some (o_aald) := (m_114 46).trans rfl
theorem t_114_47 {Ls : Nat} {xs : Nat → Int32} : am_tbl Ls xs 114 47 = some (o_iload 3 1) := (m_114 47).trans rfl
theorem t_114_48 {Ls : Nat} {xs : Nat → Int32} : am_tbl Ls xs 114 48 = some (o_iald 1) := (m_114 48).trans rfl
theorem t_114_49 {Ls : Nat} {xs : Nat → Int32} : am_tbl Ls xs 114 49 = some (o_aload 0 1) := (m_114 49).trans rfl
theorem t_114_50 {Ls : Nat} {xs : Nat → Int32} : am_tbl Ls xs 114 50 = some (o_get 0 4) := (m_114 50).trans rfl
theorem t_114_53 {Ls : Nat} {xs : Nat → Int32} : am_tbl Ls xs 114 53 = some (o_iload 4 2) := (m_114 53).trans rfl
theorem t_114_55 {Ls : Nat} {xs : Nat → Int32} : am_tbl Ls xs 114 55 = some (o_push (.int 1) 1) := (m_114 55).trans rfl
theorem t_114_56 {Ls : Nat} {xs : Nat → Int32} : am_tbl Ls xs 114 56 = some (o_iload 3 1) := (m_114 56).trans rfl
theorem t_114_57 {Ls : Nat} {xs : Nat → Int32} : am_tbl Ls xs 114 57 = some (o_ibin (fun x y => x <<< (y &&& 31))) := (m_114 57).trans rfl
theorem t_114_58 {Ls : Nat} {xs : Nat → Int32} : am_tbl Ls xs 114 58 = some (o_push (.int (-1)) 1) := (m_114 58).trans rfl
theorem t_114_59 {Ls : Nat} {xs : Nat → Int32} : am_tbl Ls xs 114 59 = some (o_ibin (fun x y => x ^^^ y)) := (m_114 59).trans rfl
theorem t_114_60 {Ls : Nat} {xs : Nat → Int32} : am_tbl Ls xs 114 60 = some (o_ibin (fun x y => x &&& y)) := (m_114 60).trans rfl
theorem t_114_61 {Ls : Nat} {xs : Nat → Int32} : am_tbl Ls xs 114 61 = some (o_iald 1) := (m_114 61).trans rfl
theorem t_114_62 {Ls : Nat} {xs : Nat → Int32} : am_tbl Ls xs 114 62 = some (o_ibin (fun x y => x + y)) := (m_114 62).trans rfl
theorem t_114_63 {Ls : Nat} {xs : Nat → Int32} : am_tbl Ls xs 114 63 = some (o_iret) := (m_114 63).trans rfl
theorem m_115 {Ls : Nat} {xs : Nat → Int32} (pc : Nat) : am_tbl Ls xs 115 pc = am_lk (op_X0_choice) pc := rfl
theorem t_115_0 {Ls : Nat} {xs : Nat → Int32} : am_tbl Ls xs 115 0 = some (o_push (.int (-1)) 1) := (m_115 0).trans rfl
theorem t_115_1 {Ls : Nat} {xs : Nat → Int32} : am_tbl Ls xs 115 1 = some (o_istore 3 1) := (m_115 1).trans rfl
theorem t_115_2 {Ls : Nat} {xs : Nat → Int32} : am_tbl Ls xs 115 2 = some (o_aload 0 1) := (m_115 2).trans rfl
theorem t_115_3 {Ls : Nat} {xs : Nat → Int32} : am_tbl Ls xs 115 3 = some (o_iload 1 1) := (m_115 3).trans rfl
theorem t_115_4 {Ls : Nat} {xs : Nat → Int32} : am_tbl Ls xs 115 4 = some (o_iload 2 1) := (m_115 4).trans rfl
theorem t_115_5 {Ls : Nat} {xs : Nat → Int32} : am_tbl Ls xs 115 5 = some (o_push (.int (-1)) 1) := (m_115 5).trans rfl
theorem t_115_6 {Ls : Nat} {xs : Nat → Int32} : am_tbl Ls xs 115 6 = some (o_callv 114 3 0 5) := (m_115 6).trans rfl
theorem t_115_9 {Ls : Nat} {xs : Nat → Int32} : am_tbl Ls xs 115 9 = some (o_istore 4 2) := (m_115 9).trans rfl
theorem t_115_11 {Ls : Nat} {xs : Nat → Int32} : am_tbl Ls xs 115 11 = some (o_iload 2 1) := (m_115 11).trans rfl
theorem t_115_12 {Ls : Nat} {xs : Nat → Int32} : am_tbl Ls xs 115 12 = some (o_push (.int 1) 1) := (m_115 12).trans rfl
theorem t_115_13 {Ls : Nat} {xs : Nat → Int32} : am_tbl Ls xs 115 13 = some (o_ibin (fun x y => x + y)) := (m_115 13).trans rfl
theorem t_115_14 {Ls : Nat} {xs : Nat → Int32} : am_tbl Ls xs 115 14 = some (o_istore 5 2) := (m_115 14).trans rfl
theorem t_115_16 {Ls : Nat} {xs : Nat → Int32} : am_tbl Ls xs 115 16 = some (o_nrm [0, 1, 2, 3, 4, 5] (o_iload 5 2)) := (m_115 16).trans rfl
theorem t_115_18 {Ls : Nat} {xs : Nat → Int32} : am_tbl Ls xs 115 18 = some (o_aload 0 1) := (m_115 18).trans rfl
theorem t_115_19 {Ls : Nat} {xs : Nat → Int32} : am_tbl Ls xs 115 19 = some (o_get 0 1) := (m_115 19).trans rfl
theorem t_115_22 {Ls : Nat} {xs : Nat → Int32} : am_tbl Ls xs 115 22 = some (o_get 2 4) := (m_115 22).trans rfl
theorem t_115_25 {Ls : Nat} {xs : Nat → Int32} : am_tbl Ls xs 115 25 = some (o_icmp (fun x y => decide (y ≤ x)) 69) := (m_115 25).trans rfl
theorem t_115_28 {Ls : Nat} {xs : Nat → Int32} : am_tbl Ls xs 115 28 = some (o_iload 1 1) := (m_115 28).trans rfl
theorem t_115_29 {Ls : Nat} {xs : Nat → Int32} : am_tbl Ls xs 115 29 = some (o_iload 5 2) := (m_115 29).trans rfl
theorem t_115_31 {Ls : Nat} {xs : Nat → Int32} : am_tbl Ls xs 115 31 = some (o_ibin (fun x y => x >>> (y &&& 31))) := (m_115 31).trans rfl
theorem t_115_32 {Ls : Nat} {xs : Nat → Int32} : am_tbl Ls xs 115 32 = some (o_push (.int 1) 1) := (m_115 32).trans rfl
theorem t_115_33 {Ls : Nat} {xs : Nat → Int32} : am_tbl Ls xs 115 33 = some (o_ibin (fun x y => x &&& y)) := (m_115 33).trans rfl
theorem t_115_34 {Ls : Nat} {xs : Nat → Int32} : am_tbl Ls xs 115 34 = some (o_if (fun x => decide (x = 0)) 63) := (m_115 34).trans rfl
theorem t_115_37 {Ls : Nat} {xs : Nat → Int32} : am_tbl Ls xs 115 37 = some (o_aload 0 1) := (m_115 37).trans rfl
theorem t_115_38 {Ls : Nat} {xs : Nat → Int32} : am_tbl Ls xs 115 38 = some (o_iload 1 1) := (m_115 38).trans rfl
theorem t_115_39 {Ls : Nat} {xs : Nat → Int32} : am_tbl Ls xs 115 39 = some (o_iload 2 1) := (m_115 39).trans rfl
theorem t_115_40 {Ls : Nat} {xs : Nat → Int32} : am_tbl Ls xs 115 40 = some (o_iload 5 2) := (m_115 40).trans rfl
theorem t_115_42 {Ls : Nat} {xs : Nat → Int32} : am_tbl Ls xs 115 42 = some (o_callv 114 3 0 5) := (m_115 42).trans rfl
theorem t_115_45 {Ls : Nat} {xs : Nat → Int32} : am_tbl Ls xs 115 45 = some (o_iload 4 2) := (m_115 45).trans rfl
theorem t_115_47 {Ls : Nat} {xs : Nat → Int32} : am_tbl Ls xs 115 47 = some (o_icmp (fun x y => decide (x ≤ y)) 63) := (m_115 47).trans rfl
theorem t_115_50 {Ls : Nat} {xs : Nat → Int32} : am_tbl Ls xs 115 50 = some (o_aload 0 1) := (m_115 50).trans rfl
theorem t_115_51 {Ls : Nat} {xs : Nat → Int32} : am_tbl Ls xs 115 51 = some (o_iload 1 1) := (m_115 51).trans rfl
theorem t_115_52 {Ls : Nat} {xs : Nat → Int32} : am_tbl Ls xs 115 52 = some (o_iload 2 1) := (m_115 52).trans rfl
theorem t_115_53 {Ls : Nat} {xs : Nat → Int32} : am_tbl Ls xs 115 53 = some (o_iload 5 2) := (m_115 53).trans rfl
theorem t_115_55 {Ls : Nat} {xs : Nat → Int32} : am_tbl Ls xs 115 55 = some (o_callv 114 3 0 5) := (m_115 55).trans rfl
theorem t_115_58 {Ls : Nat} {xs : Nat → Int32} : am_tbl Ls xs 115 58 = some (o_istore 4 2) := (m_115 58).trans rfl
theorem t_115_60 {Ls : Nat} {xs : Nat → Int32} : am_tbl Ls xs 115 60 = some (o_iload 5 2) := (m_115 60).trans rfl
theorem t_115_62 {Ls : Nat} {xs : Nat → Int32} : am_tbl Ls xs 115 62 = some (o_istore 3 1) := (m_115 62).trans rfl
theorem t_115_63 {Ls : Nat} {xs : Nat → Int32} : am_tbl Ls xs 115 63 = some (o_nrm [0, 1, 2, 3, 4, 5] (o_iinc 5 1)) := (m_115 63).trans rfl
theorem t_115_66 {Ls : Nat} {xs : Nat → Int32} : am_tbl Ls xs 115 66 = some (o_goto 16) := (m_115 66).trans rfl
theorem t_115_69 {Ls : Nat} {xs : Nat → Int32} : am_tbl Ls xs 115 69 = some (o_iload 3 1) := (m_115 69).trans rfl
theorem t_115_70 {Ls : Nat} {xs : Nat → Int32} : am_tbl Ls xs 115 70 = some (o_iret) := (m_115 70).trans rfl
theorem m_116 {Ls : Nat} {xs : Nat → Int32} (pc : Nat) : am_tbl Ls xs 116 pc = am_lk (op_X0_bestSum) pc := rfl
theorem t_116_0 {Ls : Nat} {xs : Nat → Int32} : am_tbl Ls xs 116 0 = some (o_aload 0 1) := (m_116 0).trans rfl
theorem t_116_1 {Ls : Nat} {xs : Nat → Int32} : am_tbl Ls xs 116 1 = some (o_get 0 4) := (m_116 1).trans rfl
theorem t_116_4 {Ls : Nat} {xs : Nat → Int32} : am_tbl Ls xs 116 4 = some (o_push (.int 1) 1) := (m_116 4).trans rfl
theorem t_116_5 {Ls : Nat} {xs : Nat → Int32} : am_tbl Ls xs 116 5 = some (o_aload 0 1) := (m_116 5).trans rfl
theorem t_116_6 {Ls : Nat} {xs : Nat → Int32} : am_tbl Ls xs 116 6 = some (o_get 0 1) := (m_116 6).trans rfl
theorem t_116_9 {Ls : Nat} {xs : Nat → Int32} : am_tbl Ls xs 116 9 = some (o_get 2 4) := (m_116 9).trans rfl
theorem t_116_12 {Ls : Nat} {xs : Nat → Int32} : am_tbl Ls xs 116 12 = some (o_ibin (fun x y => x <<< (y &&& 31))) := (m_116 12).trans rfl
theorem t_116_13 {Ls : Nat} {xs : Nat → Int32} : am_tbl Ls xs 116 13 = some (o_push (.int 1) 1) := (m_116 13).trans rfl
theorem t_116_14 {Ls : Nat} {xs : Nat → Int32} : am_tbl Ls xs 116 14 = some (o_ibin (fun x y => x - y)) := (m_116 14).trans rfl
theorem t_116_15 {Ls : Nat} {xs : Nat → Int32} : am_tbl Ls xs 116 15 = some (o_iald 1) := (m_116 15).trans rfl
theorem t_116_16 {Ls : Nat} {xs : Nat → Int32} : am_tbl Ls xs 116 16 = some (o_iret) := (m_116 16).trans rfl
theorem m_117 {Ls : Nat} {xs : Nat → Int32} (pc : Nat) : am_tbl Ls xs 117 pc = am_lk (op_X0_partnerOf) pc := rfl
theorem t_117_0 {Ls : Nat} {xs : Nat → Int32} : am_tbl Ls xs 117 0 = some (o_push (.int 1) 1) := (m_117 0).trans rfl
theorem t_117_1 {Ls : Nat} {xs : Nat → Int32} : am_tbl Ls xs 117 1 = some (o_aload 0 1) := (m_117 1).trans rfl
theorem t_117_2 {Ls : Nat} {xs : Nat → Int32} : am_tbl Ls xs 117 2 = some (o_get 0 1) := (m_117 2).trans rfl
theorem t_117_5 {Ls : Nat} {xs : Nat → Int32} : am_tbl Ls xs 117 5 = some (o_get 2 4) := (m_117 5).trans rfl
theorem t_117_8 {Ls : Nat} {xs : Nat → Int32} : am_tbl Ls xs 117 8 = some (o_ibin (fun x y => x <<< (y &&& 31))) := (m_117 8).trans rfl
theorem t_117_9 {Ls : Nat} {xs : Nat → Int32} : am_tbl Ls xs 117 9 = some (o_push (.int 1) 1) := (m_117 9).trans rfl
theorem t_117_10 {Ls : Nat} {xs : Nat → Int32} : am_tbl Ls xs 117 10 = some (o_ibin (fun x y => x - y)) := (m_117 10).trans rfl
theorem t_117_11 {Ls : Nat} {xs : Nat → Int32} : am_tbl Ls xs 117 11 = some (o_istore 2 1) := (m_117 11).trans rfl
theorem t_117_12 {Ls : Nat} {xs : Nat → Int32} : am_tbl Ls xs 117 12 = some (o_push (.int 0) 1) := (m_117 12).trans rfl
theorem t_117_13 {Ls : Nat} {xs : Nat → Int32} : am_tbl Ls xs 117 13 = some (o_istore 3 1) := (m_117 13).trans rfl
theorem t_117_14 {Ls : Nat} {xs : Nat → Int32} : am_tbl Ls xs 117 14 = some (o_nrm [0, 1, 2, 3] (o_iload 3 1)) := (m_117 14).trans rfl
theorem t_117_15 {Ls : Nat} {xs : Nat → Int32} : am_tbl Ls xs 117 15 = some (o_aload 0 1) := (m_117 15).trans rfl
theorem t_117_16 {Ls : Nat} {xs : Nat → Int32} : am_tbl Ls xs 117 16 = some (o_get 0 1) := (m_117 16).trans rfl
theorem t_117_19 {Ls : Nat} {xs : Nat → Int32} : am_tbl Ls xs 117 19 = some (o_get 2 4) := (m_117 19).trans rfl
theorem t_117_22 {Ls : Nat} {xs : Nat → Int32} : am_tbl Ls xs 117 22 = some (o_icmp (fun x y => decide (y ≤ x)) 99) := (m_117 22).trans rfl
theorem t_117_25 {Ls : Nat} {xs : Nat → Int32} : am_tbl Ls xs 117 25 = some (o_iload 2 1) := (m_117 25).trans rfl
theorem t_117_26 {Ls : Nat} {xs : Nat → Int32} : am_tbl Ls xs 117 26 = some (o_if (fun x => decide (x = 0)) 99) := (m_117 26).trans rfl
theorem t_117_29 {Ls : Nat} {xs : Nat → Int32} : am_tbl Ls xs 117 29 = some (o_aload 0 1) := (m_117 29).trans rfl
theorem t_117_30 {Ls : Nat} {xs : Nat → Int32} : am_tbl Ls xs 117 30 = some (o_iload 2 1) := (m_117 30).trans rfl
theorem t_117_31 {Ls : Nat} {xs : Nat → Int32} : am_tbl Ls xs 117 31 = some (o_callv 113 1 0 3) := (m_117 31).trans rfl
theorem t_117_34 {Ls : Nat} {xs : Nat → Int32} : am_tbl Ls xs 117 34 = some (o_istore 4 2) := (m_117 34).trans rfl
theorem t_117_36 {Ls : Nat} {xs : Nat → Int32} : am_tbl Ls xs 117 36 = some (o_aload 0 1) := (m_117 36).trans rfl
theorem t_117_37 {Ls : Nat} {xs : Nat → Int32} : am_tbl Ls xs 117 37 = some (o_iload 2 1) := (m_117 37).trans rfl
theorem t_117_38 {Ls : Nat} {xs : Nat → Int32} : am_tbl Ls xs 117 38 = some (o_iload 4 2) := (m_117 38).trans rfl
theorem t_117_40 {Ls : Nat} {xs : Nat → Int32} : am_tbl Ls xs 117 40 = some (o_callv 115 2 0 6) := (m_117 40).trans rfl
theorem t_117_43 {Ls : Nat} {xs : Nat → Int32} : am_tbl Ls xs 117 43 = some (o_istore 5 2) := (m_117 43).trans rfl
theorem t_117_45 {Ls : Nat} {xs : Nat → Int32} : am_tbl Ls xs 117 45 = some (o_iload 4 2) := (m_117 45).trans rfl
theorem t_117_47 {Ls : Nat} {xs : Nat → Int32} : am_tbl Ls xs 117 47 = some (o_iload 1 1) := (m_117 47).trans rfl
theorem t_117_48 {Ls : Nat} {xs : Nat → Int32} : am_tbl Ls xs 117 48 = some (o_icmp (fun x y => decide (x ≠ y)) 54) := (m_117 48).trans rfl
theorem t_117_51 {Ls : Nat} {xs : Nat → Int32} : am_tbl Ls xs 117 51 = some (o_iload 5 2) := (m_117 51).trans rfl
theorem t_117_53 {Ls : Nat} {xs : Nat → Int32} : am_tbl Ls xs 117 53 = some (o_iret) := (m_117 53).trans rfl
theorem t_117_54 {Ls : Nat} {xs : Nat → Int32} : am_tbl Ls xs 117 54 = some (o_iload 5 2) := (m_117 54).trans rfl
theorem t_117_56 {Ls : Nat} {xs : Nat → Int32} : am_tbl Ls xs 117 56 = some (o_iload 1 1) := (m_117 56).trans rfl
theorem t_117_57 {Ls : Nat} {xs : Nat → Int32} : am_tbl Ls xs 117 57 = some (o_icmp (fun x y => decide (x ≠ y)) 63) := (m_117 57).trans rfl
theorem t_117_60 {Ls : Nat} {xs : Nat → Int32} : am_tbl Ls xs 117 60 = some (o_iload 4 2) := (m_117 60).trans rfl
theorem t_117_62 {Ls : Nat} {xs : Nat → Int32} : am_tbl Ls xs 117 62 = some (o_iret) := (m_117 62).trans rfl
theorem t_117_63 {Ls : Nat} {xs : Nat → Int32} : am_tbl Ls xs 117 63 = some (o_iload 2 1) := (m_117 63).trans rfl
theorem t_117_64 {Ls : Nat} {xs : Nat → Int32} : am_tbl Ls xs 117 64 = some (o_push (.int 1) 1) := (m_117 64).trans rfl
theorem t_117_65 {Ls : Nat} {xs : Nat → Int32} : am_tbl Ls xs 117 65 = some (o_iload 4 2) := (m_117 65).trans rfl
theorem t_117_67 {Ls : Nat} {xs : Nat → Int32} : am_tbl Ls xs 117 67 = some (o_ibin (fun x y => x <<< (y &&& 31))) := (m_117 67).trans rfl
theorem t_117_68 {Ls : Nat} {xs : Nat → Int32} : am_tbl Ls xs 117 68 = some (o_push (.int (-1)) 1) := (m_117 68).trans rfl
theorem t_117_69 {Ls : Nat} {xs : Nat → Int32} : am_tbl Ls xs 117 69 = some (o_ibin (fun x y => x ^^^ y)) := (m_117 69).trans rfl
theorem t_117_70 {Ls : Nat} {xs : Nat → Int32} : am_tbl Ls xs 117 70 = some (o_ibin (fun x y => x &&& y)) := (m_117 70).trans rfl
theorem t_117_71 {Ls : Nat} {xs : Nat → Int32} : am_tbl Ls xs 117 71 = some (o_istore 2 1) := (m_117 71).trans rfl
theorem t_117_72 {Ls : Nat} {xs : Nat → Int32} : am_tbl Ls xs 117 72 = some (o_aload 0 1) := (m_117 72).trans rfl
theorem t_117_73 {Ls : Nat} {xs : Nat → Int32} : am_tbl Ls xs 117 73 = some (o_get 0 1) := (m_117 73).trans rfl
theorem t_117_76 {Ls : Nat} {xs : Nat → Int32} : am_tbl Ls xs 117 76 = some (o_iload 5 2) := (m_117 76).trans rfl
theorem t_117_78 {Ls : Nat} {xs : Nat → Int32} : am_tbl Ls xs 117 78 = some (o_callv 135 1 2 2) := (m_117 78).trans rfl
theorem t_117_81 {Ls : Nat} {xs : Nat → Int32} : am_tbl Ls xs 117 81 = some (o_if (fun x => decide (x = 0)) 93) := (m_117 81).trans rfl
theorem t_117_84 {Ls : Nat} {xs : Nat → Int32} : am_tbl Ls xs 117 84 = some (o_iload 2 1) := (m_117 84).trans rfl
theorem t_117_85 {Ls : Nat} {xs : Nat → Int32} : am_tbl Ls xs 117 85 = some (o_push (.int 1) 1) := (m_117 85).trans rfl
theorem t_117_86 {Ls : Nat} {xs : Nat → Int32} : am_tbl Ls xs 117 86 = some (o_iload 5 2) := (m_117 86).trans rfl
theorem t_117_88 {Ls : Nat} {xs : Nat → Int32} : am_tbl Ls xs 117 88 = some (o_ibin (fun x y => x <<< (y &&& 31))) := (m_117 88).trans rfl
theorem t_117_89 {Ls : Nat} {xs : Nat → Int32} : am_tbl Ls xs 117 89 = some (o_push (.int (-1)) 1) := (m_117 89).trans rfl
theorem t_117_90 {Ls : Nat} {xs : Nat → Int32} : am_tbl Ls xs 117 90 = some (o_ibin (fun x y => x ^^^ y)) := (m_117 90).trans rfl
theorem t_117_91 {Ls : Nat} {xs : Nat → Int32} : am_tbl Ls xs 117 91 = some (o_ibin (fun x y => x &&& y)) := (m_117 91).trans rfl
theorem t_117_92 {Ls : Nat} {xs : Nat → Int32} : am_tbl Ls xs 117 92 = some (o_istore 2 1) := (m_117 92).trans rfl
theorem t_117_93 {Ls : Nat} {xs : Nat → Int32} : am_tbl Ls xs 117 93 = some (o_nrm [0, 1, 2, 3] (o_iinc 3 1)) := (m_117 93).trans rfl
theorem t_117_96 {Ls : Nat} {xs : Nat → Int32} : am_tbl Ls xs 117 96 = some (o_goto 14) := (m_117 96).trans rfl
theorem t_117_99 {Ls : Nat} {xs : Nat → Int32} : am_tbl Ls xs 117 99 = some (o_nrm [] (o_push (.int (-1)) 1)) := (m_117 99).trans rfl
theorem t_117_100 {Ls : Nat} {xs : Nat → Int32} : am_tbl Ls xs 117 100 = some (o_iret) := (m_117 100).trans rfl
