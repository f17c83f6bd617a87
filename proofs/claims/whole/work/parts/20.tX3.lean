/-! THE TABLES BY PLACE -/
theorem m_144 {Ls : Nat} {xs : Nat → Int32} (pc : Nat) : am_tbl Ls xs 144 pc = am_lk (op_X3_append) pc := rfl
theorem t_144_0 {Ls : Nat} {xs : Nat → Int32} : am_tbl Ls xs 144 0 = some (o_iload 1 1) := (m_144 0).trans rfl
theorem t_144_1 {Ls : Nat} {xs : Nat → Int32} : am_tbl Ls xs 144 1 = some (o_push (.int 1) 1) := (m_144 1).trans rfl
theorem t_144_2 {Ls : Nat} {xs : Nat → Int32} : am_tbl Ls xs 144 2 = some (o_ibin (fun x y => x - y)) := (m_144 2).trans rfl
theorem t_144_3 {Ls : Nat} {xs : Nat → Int32} : am_tbl Ls xs 144 3 = some (o_istore 4 2) := (m_144 3).trans rfl
theorem t_144_5 {Ls : Nat} {xs : Nat → Int32} : am_tbl Ls xs 144 5 = some (o_nrm [0, 2, 4] (o_iload 4 2)) := (m_144 5).trans rfl
theorem t_144_7 {Ls : Nat} {xs : Nat → Int32} : am_tbl Ls xs 144 7 = some (o_if (fun x => decide (x < 0)) 54) := (m_144 7).trans rfl
theorem t_144_10 {Ls : Nat} {xs : Nat → Int32} : am_tbl Ls xs 144 10 = some (o_aload 0 1) := (m_144 10).trans rfl
theorem t_144_11 {Ls : Nat} {xs : Nat → Int32} : am_tbl Ls xs 144 11 = some (o_get 3 6) := (m_144 11).trans rfl
theorem t_144_14 {Ls : Nat} {xs : Nat → Int32} : am_tbl Ls xs 144 14 = some (o_push (.int 500) 3) := (m_144 14).trans rfl
theorem t_144_17 {Ls : Nat} {xs : Nat → Int32} : am_tbl Ls xs 144 17 = some (o_icmp (fun x y => decide (y ≤ x)) 54) := (m_144 17).trans rfl
theorem t_144_20 {Ls : Nat} {xs : Nat → Int32} : am_tbl Ls xs 144 20 = some (o_aload 0 1) := (m_144 20).trans rfl
theorem t_144_21 {Ls : Nat} {xs : Nat → Int32} : am_tbl Ls xs 144 21 = some (o_get 3 0) := (m_144 21).trans rfl
theorem t_144_24 {Ls : Nat} {xs : Nat → Int32} : am_tbl Ls xs 144 24 = some (o_aload 0 1) := (m_144 24).trans rfl
theorem t_144_25 {Ls : Nat} {xs : Nat → Int32} : am_tbl Ls xs 144 25 = some (o_get 3 6) := (m_144 25).trans rfl
theorem t_144_28 {Ls : Nat} {xs : Nat → Int32} : am_tbl Ls xs 144 28 = some (o_lload 2 1) := (m_144 28).trans rfl
theorem t_144_29 {Ls : Nat} {xs : Nat → Int32} : am_tbl Ls xs 144 29 = some (o_push (.int 8) 2) := (m_144 29).trans rfl
theorem t_144_31 {Ls : Nat} {xs : Nat → Int32} : am_tbl Ls xs 144 31 = some (o_iload 4 2) := (m_144 31).trans rfl
theorem t_144_33 {Ls : Nat} {xs : Nat → Int32} : am_tbl Ls xs 144 33 = some (o_ibin (fun x y => x * y)) := (m_144 33).trans rfl
theorem t_144_34 {Ls : Nat} {xs : Nat → Int32} : am_tbl Ls xs 144 34 = some (o_lsh (fun x y => x >>> (y.toInt64 &&& 63))) := (m_144 34).trans rfl
theorem t_144_35 {Ls : Nat} {xs : Nat → Int32} : am_tbl Ls xs 144 35 = some (o_l2i) := (m_144 35).trans rfl
theorem t_144_36 {Ls : Nat} {xs : Nat → Int32} : am_tbl Ls xs 144 36 = some (o_iun (fun x => x.toInt8.toInt32)) := (m_144 36).trans rfl
theorem t_144_37 {Ls : Nat} {xs : Nat → Int32} : am_tbl Ls xs 144 37 = some (o_iast 2 (fun x => vp_nar .byte x)) := (m_144 37).trans rfl
theorem t_144_38 {Ls : Nat} {xs : Nat → Int32} : am_tbl Ls xs 144 38 = some (o_aload 0 1) := (m_144 38).trans rfl
theorem t_144_39 {Ls : Nat} {xs : Nat → Int32} : am_tbl Ls xs 144 39 = some (o_dup) := (m_144 39).trans rfl
theorem t_144_40 {Ls : Nat} {xs : Nat → Int32} : am_tbl Ls xs 144 40 = some (o_get 3 6) := (m_144 40).trans rfl
theorem t_144_43 {Ls : Nat} {xs : Nat → Int32} : am_tbl Ls xs 144 43 = some (o_push (.int 1) 1) := (m_144 43).trans rfl
theorem t_144_44 {Ls : Nat} {xs : Nat → Int32} : am_tbl Ls xs 144 44 = some (o_ibin (fun x y => x + y)) := (m_144 44).trans rfl
theorem t_144_45 {Ls : Nat} {xs : Nat → Int32} : am_tbl Ls xs 144 45 = some (o_puti 3 6) := (m_144 45).trans rfl
theorem t_144_48 {Ls : Nat} {xs : Nat → Int32} : am_tbl Ls xs 144 48 = some (o_iinc 4 (-1)) := (m_144 48).trans rfl
theorem t_144_51 {Ls : Nat} {xs : Nat → Int32} : am_tbl Ls xs 144 51 = some (o_goto 5) := (m_144 51).trans rfl
theorem t_144_54 {Ls : Nat} {xs : Nat → Int32} : am_tbl Ls xs 144 54 = some (o_nrm [] (o_vret)) := (m_144 54).trans rfl
theorem m_145 {Ls : Nat} {xs : Nat → Int32} (pc : Nat) : am_tbl Ls xs 145 pc = am_lk (op_X3_readInto) pc := rfl
theorem t_145_0 {Ls : Nat} {xs : Nat → Int32} : am_tbl Ls xs 145 0 = some (o_aload 0 1) := (m_145 0).trans rfl
theorem t_145_1 {Ls : Nat} {xs : Nat → Int32} : am_tbl Ls xs 145 1 = some (o_push (.int 0) 1) := (m_145 1).trans rfl
theorem t_145_2 {Ls : Nat} {xs : Nat → Int32} : am_tbl Ls xs 145 2 = some (o_puti 3 1) := (m_145 2).trans rfl
theorem t_145_5 {Ls : Nat} {xs : Nat → Int32} : am_tbl Ls xs 145 5 = some (o_aload 0 1) := (m_145 5).trans rfl
theorem t_145_6 {Ls : Nat} {xs : Nat → Int32} : am_tbl Ls xs 145 6 = some (o_push (.int 0) 1) := (m_145 6).trans rfl
theorem t_145_7 {Ls : Nat} {xs : Nat → Int32} : am_tbl Ls xs 145 7 = some (o_puti 3 2) := (m_145 7).trans rfl
theorem t_145_10 {Ls : Nat} {xs : Nat → Int32} : am_tbl Ls xs 145 10 = some (o_aload 0 1) := (m_145 10).trans rfl
theorem t_145_11 {Ls : Nat} {xs : Nat → Int32} : am_tbl Ls xs 145 11 = some (o_push (.int (-1)) 1) := (m_145 11).trans rfl
theorem t_145_12 {Ls : Nat} {xs : Nat → Int32} : am_tbl Ls xs 145 12 = some (o_puti 3 7) := (m_145 12).trans rfl
theorem t_145_15 {Ls : Nat} {xs : Nat → Int32} : am_tbl Ls xs 145 15 = some (o_aload 0 1) := (m_145 15).trans rfl
theorem t_145_16 {Ls : Nat} {xs : Nat → Int32} : am_tbl Ls xs 145 16 = some (o_push (.int 0) 1) := (m_145 16).trans rfl
theorem t_145_17 {Ls : Nat} {xs : Nat → Int32} : am_tbl Ls xs 145 17 = some (o_puti 3 4) := (m_145 17).trans rfl
theorem t_145_20 {Ls : Nat} {xs : Nat → Int32} : am_tbl Ls xs 145 20 = some (o_aload 0 1) := (m_145 20).trans rfl
theorem t_145_21 {Ls : Nat} {xs : Nat → Int32} : am_tbl Ls xs 145 21 = some (o_push (.int 0) 1) := (m_145 21).trans rfl
theorem t_145_22 {Ls : Nat} {xs : Nat → Int32} : am_tbl Ls xs 145 22 = some (o_putz 3 5) := (m_145 22).trans rfl
theorem t_145_25 {Ls : Nat} {xs : Nat → Int32} : am_tbl Ls xs 145 25 = some (o_aload 1 1) := (m_145 25).trans rfl
theorem t_145_26 {Ls : Nat} {xs : Nat → Int32} : am_tbl Ls xs 145 26 = some (o_callv 127 0 2 2) := (m_145 26).trans rfl
theorem t_145_29 {Ls : Nat} {xs : Nat → Int32} : am_tbl Ls xs 145 29 = some (o_push (.int 0) 1) := (m_145 29).trans rfl
theorem t_145_30 {Ls : Nat} {xs : Nat → Int32} : am_tbl Ls xs 145 30 = some (o_istore 2 1) := (m_145 30).trans rfl
theorem t_145_31 {Ls : Nat} {xs : Nat → Int32} : am_tbl Ls xs 145 31 = some (o_nrm [0, 1, 2] (o_iload 2 1)) := (m_145 31).trans rfl
theorem t_145_32 {Ls : Nat} {xs : Nat → Int32} : am_tbl Ls xs 145 32 = some (o_push (.int 500) 3) := (m_145 32).trans rfl
theorem t_145_35 {Ls : Nat} {xs : Nat → Int32} : am_tbl Ls xs 145 35 = some (o_icmp (fun x y => decide (y < x)) 74) := (m_145 35).trans rfl
theorem t_145_38 {Ls : Nat} {xs : Nat → Int32} : am_tbl Ls xs 145 38 = some (o_aload 0 1) := (m_145 38).trans rfl
theorem t_145_39 {Ls : Nat} {xs : Nat → Int32} : am_tbl Ls xs 145 39 = some (o_get 3 2) := (m_145 39).trans rfl
theorem t_145_42 {Ls : Nat} {xs : Nat → Int32} : am_tbl Ls xs 145 42 = some (o_if (fun x => decide (x ≠ 0)) 74) := (m_145 42).trans rfl
theorem t_145_45 {Ls : Nat} {xs : Nat → Int32} : am_tbl Ls xs 145 45 = some (o_aload 0 1) := (m_145 45).trans rfl
theorem t_145_46 {Ls : Nat} {xs : Nat → Int32} : am_tbl Ls xs 145 46 = some (o_callv 155 0 3 2) := (m_145 46).trans rfl
theorem t_145_49 {Ls : Nat} {xs : Nat → Int32} : am_tbl Ls xs 145 49 = some (o_aload 0 1) := (m_145 49).trans rfl
theorem t_145_50 {Ls : Nat} {xs : Nat → Int32} : am_tbl Ls xs 145 50 = some (o_get 3 1) := (m_145 50).trans rfl
theorem t_145_53 {Ls : Nat} {xs : Nat → Int32} : am_tbl Ls xs 145 53 = some (o_aload 0 1) := (m_145 53).trans rfl
theorem t_145_54 {Ls : Nat} {xs : Nat → Int32} : am_tbl Ls xs 145 54 = some (o_get 3 6) := (m_145 54).trans rfl
theorem t_145_57 {Ls : Nat} {xs : Nat → Int32} : am_tbl Ls xs 145 57 = some (o_icmp (fun x y => decide (x < y)) 63) := (m_145 57).trans rfl
theorem t_145_60 {Ls : Nat} {xs : Nat → Int32} : am_tbl Ls xs 145 60 = some (o_goto 74) := (m_145 60).trans rfl
theorem t_145_63 {Ls : Nat} {xs : Nat → Int32} : am_tbl Ls xs 145 63 = some (o_aload 0 1) := (m_145 63).trans rfl
theorem t_145_64 {Ls : Nat} {xs : Nat → Int32} : am_tbl Ls xs 145 64 = some (o_aload 1 1) := (m_145 64).trans rfl
theorem t_145_65 {Ls : Nat} {xs : Nat → Int32} : am_tbl Ls xs 145 65 = some (o_callv 146 1 3 3) := (m_145 65).trans rfl
theorem t_145_68 {Ls : Nat} {xs : Nat → Int32} : am_tbl Ls xs 145 68 = some (o_iinc 2 1) := (m_145 68).trans rfl
theorem t_145_71 {Ls : Nat} {xs : Nat → Int32} : am_tbl Ls xs 145 71 = some (o_goto 31) := (m_145 71).trans rfl
theorem t_145_74 {Ls : Nat} {xs : Nat → Int32} : am_tbl Ls xs 145 74 = some (o_nrm [0] (o_aload 0 1)) := (m_145 74).trans rfl
theorem t_145_75 {Ls : Nat} {xs : Nat → Int32} : am_tbl Ls xs 145 75 = some (o_push (.int 0) 1) := (m_145 75).trans rfl
theorem t_145_76 {Ls : Nat} {xs : Nat → Int32} : am_tbl Ls xs 145 76 = some (o_puti 3 6) := (m_145 76).trans rfl
theorem t_145_79 {Ls : Nat} {xs : Nat → Int32} : am_tbl Ls xs 145 79 = some (o_aload 0 1) := (m_145 79).trans rfl
theorem t_145_80 {Ls : Nat} {xs : Nat → Int32} : am_tbl Ls xs 145 80 = some (o_get 3 2) := (m_145 80).trans rfl
theorem t_145_83 {Ls : Nat} {xs : Nat → Int32} : am_tbl Ls xs 145 83 = some (o_iret) := (m_145 83).trans rfl
theorem m_146 {Ls : Nat} {xs : Nat → Int32} (pc : Nat) : am_tbl Ls xs 146 pc = am_lk (op_X3_readStatement) pc := rfl
theorem t_146_0 {Ls : Nat} {xs : Nat → Int32} : am_tbl Ls xs 146 0 = some (o_aload 0 1) := (m_146 0).trans rfl
theorem t_146_1 {Ls : Nat} {xs : Nat → Int32} : am_tbl Ls xs 146 1 = some (o_get 3 1) := (m_146 1).trans rfl
theorem t_146_4 {Ls : Nat} {xs : Nat → Int32} : am_tbl Ls xs 146 4 = some (o_istore 2 1) := (m_146 4).trans rfl
theorem t_146_5 {Ls : Nat} {xs : Nat → Int32} : am_tbl Ls xs 146 5 = some (o_aload 0 1) := (m_146 5).trans rfl
theorem t_146_6 {Ls : Nat} {xs : Nat → Int32} : am_tbl Ls xs 146 6 = some (o_callv 156 0 3 2) := (m_146 6).trans rfl
theorem t_146_9 {Ls : Nat} {xs : Nat → Int32} : am_tbl Ls xs 146 9 = some (o_aload 1 1) := (m_146 9).trans rfl
theorem t_146_10 {Ls : Nat} {xs : Nat → Int32} : am_tbl Ls xs 146 10 = some (o_get 2 2) := (m_146 10).trans rfl
theorem t_146_13 {Ls : Nat} {xs : Nat → Int32} : am_tbl Ls xs 146 13 = some (o_if (fun x => decide (x ≠ 0)) 25) := (m_146 13).trans rfl
theorem t_146_16 {Ls : Nat} {xs : Nat → Int32} : am_tbl Ls xs 146 16 = some (o_aload 0 1) := (m_146 16).trans rfl
theorem t_146_17 {Ls : Nat} {xs : Nat → Int32} : am_tbl Ls xs 146 17 = some (o_aload 1 1) := (m_146 17).trans rfl
theorem t_146_18 {Ls : Nat} {xs : Nat → Int32} : am_tbl Ls xs 146 18 = some (o_iload 2 1) := (m_146 18).trans rfl
theorem t_146_19 {Ls : Nat} {xs : Nat → Int32} : am_tbl Ls xs 146 19 = some (o_callv 147 2 3 5) := (m_146 19).trans rfl
theorem t_146_22 {Ls : Nat} {xs : Nat → Int32} : am_tbl Ls xs 146 22 = some (o_goto 121) := (m_146 22).trans rfl
theorem t_146_25 {Ls : Nat} {xs : Nat → Int32} : am_tbl Ls xs 146 25 = some (o_aload 0 1) := (m_146 25).trans rfl
theorem t_146_26 {Ls : Nat} {xs : Nat → Int32} : am_tbl Ls xs 146 26 = some (o_iload 2 1) := (m_146 26).trans rfl
theorem t_146_27 {Ls : Nat} {xs : Nat → Int32} : am_tbl Ls xs 146 27 = some (o_push (.ref (1000000 + 1)) 2) := (m_146 27).trans rfl
theorem t_146_29 {Ls : Nat} {xs : Nat → Int32} : am_tbl Ls xs 146 29 = some (o_callv 158 2 3 4) := (m_146 29).trans rfl
theorem t_146_32 {Ls : Nat} {xs : Nat → Int32} : am_tbl Ls xs 146 32 = some (o_if (fun x => decide (x = 0)) 44) := (m_146 32).trans rfl
theorem t_146_35 {Ls : Nat} {xs : Nat → Int32} : am_tbl Ls xs 146 35 = some (o_aload 0 1) := (m_146 35).trans rfl
theorem t_146_36 {Ls : Nat} {xs : Nat → Int32} : am_tbl Ls xs 146 36 = some (o_aload 1 1) := (m_146 36).trans rfl
theorem t_146_37 {Ls : Nat} {xs : Nat → Int32} : am_tbl Ls xs 146 37 = some (o_iload 2 1) := (m_146 37).trans rfl
theorem t_146_38 {Ls : Nat} {xs : Nat → Int32} : am_tbl Ls xs 146 38 = some (o_callv 148 2 3 5) := (m_146 38).trans rfl
theorem t_146_41 {Ls : Nat} {xs : Nat → Int32} : am_tbl Ls xs 146 41 = some (o_goto 121) := (m_146 41).trans rfl
theorem t_146_44 {Ls : Nat} {xs : Nat → Int32} : am_tbl Ls xs 146 44 = some (o_aload 0 1) := (m_146 44).trans rfl
theorem t_146_45 {Ls : Nat} {xs : Nat → Int32} : am_tbl Ls xs 146 45 = some (o_iload 2 1) := (m_146 45).trans rfl
theorem t_146_46 {Ls : Nat} {xs : Nat → Int32} : am_tbl Ls xs 146 46 = some (o_push (.ref (1000000 + 2)) 2) := (m_146 46).trans rfl
theorem t_146_48 {Ls : Nat} {xs : Nat → Int32} : am_tbl Ls xs 146 48 = some (o_callv 158 2 3 4) := (m_146 48).trans rfl
theorem t_146_51 {Ls : Nat} {xs : Nat → Int32} : am_tbl Ls xs 146 51 = some (o_if (fun x => decide (x = 0)) 63) := (m_146 51).trans rfl
theorem t_146_54 {Ls : Nat} {xs : Nat → Int32} : am_tbl Ls xs 146 54 = some (o_aload 0 1) := (m_146 54).trans rfl
theorem t_146_55 {Ls : Nat} {xs : Nat → Int32} : am_tbl Ls xs 146 55 = some (o_aload 1 1) := (m_146 55).trans rfl
theorem t_146_56 {Ls : Nat} {xs : Nat → Int32} : am_tbl Ls xs 146 56 = some (o_iload 2 1) := (m_146 56).trans rfl
theorem t_146_57 {Ls : Nat} {xs : Nat → Int32} : am_tbl Ls xs 146 57 = some (o_callv 149 2 3 7) := (m_146 57).trans rfl
theorem t_146_60 {Ls : Nat} {xs : Nat → Int32} : am_tbl Ls xs 146 60 = some (o_goto 121) := (m_146 60).trans rfl
theorem t_146_63 {Ls : Nat} {xs : Nat → Int32} : am_tbl Ls xs 146 63 = some (o_aload 0 1) := (m_146 63).trans rfl
theorem t_146_64 {Ls : Nat} {xs : Nat → Int32} : am_tbl Ls xs 146 64 = some (o_iload 2 1) := (m_146 64).trans rfl
theorem t_146_65 {Ls : Nat} {xs : Nat → Int32} : am_tbl Ls xs 146 65 = some (o_push (.ref (1000000 + 3)) 2) := (m_146 65).trans rfl
theorem t_146_67 {Ls : Nat} {xs : Nat → Int32} : am_tbl Ls xs 146 67 = some (o_callv 158 2 3 4) := (m_146 67).trans rfl
theorem t_146_70 {Ls : Nat} {xs : Nat → Int32} : am_tbl Ls xs 146 70 = some (o_if (fun x => decide (x = 0)) 82) := (m_146 70).trans rfl
theorem t_146_73 {Ls : Nat} {xs : Nat → Int32} : am_tbl Ls xs 146 73 = some (o_aload 0 1) := (m_146 73).trans rfl
theorem t_146_74 {Ls : Nat} {xs : Nat → Int32} : am_tbl Ls xs 146 74 = some (o_aload 1 1) := (m_146 74).trans rfl
theorem t_146_75 {Ls : Nat} {xs : Nat → Int32} : am_tbl Ls xs 146 75 = some (o_iload 2 1) := (m_146 75).trans rfl
theorem t_146_76 {Ls : Nat} {xs : Nat → Int32} : am_tbl Ls xs 146 76 = some (o_callv 150 2 3 5) := (m_146 76).trans rfl
theorem t_146_79 {Ls : Nat} {xs : Nat → Int32} : am_tbl Ls xs 146 79 = some (o_goto 121) := (m_146 79).trans rfl
theorem t_146_82 {Ls : Nat} {xs : Nat → Int32} : am_tbl Ls xs 146 82 = some (o_aload 0 1) := (m_146 82).trans rfl
theorem t_146_83 {Ls : Nat} {xs : Nat → Int32} : am_tbl Ls xs 146 83 = some (o_iload 2 1) := (m_146 83).trans rfl
theorem t_146_84 {Ls : Nat} {xs : Nat → Int32} : am_tbl Ls xs 146 84 = some (o_push (.ref (1000000 + 4)) 2) := (m_146 84).trans rfl
theorem t_146_86 {Ls : Nat} {xs : Nat → Int32} : am_tbl Ls xs 146 86 = some (o_callv 158 2 3 4) := (m_146 86).trans rfl
theorem t_146_89 {Ls : Nat} {xs : Nat → Int32} : am_tbl Ls xs 146 89 = some (o_if (fun x => decide (x = 0)) 101) := (m_146 89).trans rfl
theorem t_146_92 {Ls : Nat} {xs : Nat → Int32} : am_tbl Ls xs 146 92 = some (o_aload 0 1) := (m_146 92).trans rfl
theorem t_146_93 {Ls : Nat} {xs : Nat → Int32} : am_tbl Ls xs 146 93 = some (o_aload 1 1) := (m_146 93).trans rfl
theorem t_146_94 {Ls : Nat} {xs : Nat → Int32} : am_tbl Ls xs 146 94 = some (o_iload 2 1) := (m_146 94).trans rfl
theorem t_146_95 {Ls : Nat} {xs : Nat → Int32} : am_tbl Ls xs 146 95 = some (o_callv 151 2 3 4) := (m_146 95).trans rfl
theorem t_146_98 {Ls : Nat} {xs : Nat → Int32} : am_tbl Ls xs 146 98 = some (o_goto 121) := (m_146 98).trans rfl
theorem t_146_101 {Ls : Nat} {xs : Nat → Int32} : am_tbl Ls xs 146 101 = some (o_aload 0 1) := (m_146 101).trans rfl
theorem t_146_102 {Ls : Nat} {xs : Nat → Int32} : am_tbl Ls xs 146 102 = some (o_aload 0 1) := (m_146 102).trans rfl
theorem t_146_103 {Ls : Nat} {xs : Nat → Int32} : am_tbl Ls xs 146 103 = some (o_iload 2 1) := (m_146 103).trans rfl
theorem t_146_104 {Ls : Nat} {xs : Nat → Int32} : am_tbl Ls xs 146 104 = some (o_push (.ref (1000000 + 0)) 2) := (m_146 104).trans rfl
theorem t_146_106 {Ls : Nat} {xs : Nat → Int32} : am_tbl Ls xs 146 106 = some (o_callv 158 2 3 4) := (m_146 106).trans rfl
theorem t_146_109 {Ls : Nat} {xs : Nat → Int32} : am_tbl Ls xs 146 109 = some (o_if (fun x => decide (x = 0)) 116) := (m_146 109).trans rfl
theorem t_146_112 {Ls : Nat} {xs : Nat → Int32} : am_tbl Ls xs 146 112 = some (o_push (.int 3) 1) := (m_146 112).trans rfl
theorem t_146_113 {Ls : Nat} {xs : Nat → Int32} : am_tbl Ls xs 146 113 = some (o_goto 117) := (m_146 113).trans rfl
set_option maxRecDepth 20000 in
theorem t_146_116 {Ls : Nat} {xs : Nat → Int32} : am_tbl Ls xs 146 116 = some (o_push (.int 1) 1) := (m_146 116).trans rfl
set_option maxRecDepth 20000 in
theorem t_146_117 {Ls : Nat} {xs : Nat → Int32} : am_tbl Ls xs 146 117 = some (o_nrm [2] (o_iload 2 1)) := (m_146 117).trans rfl
set_option maxRecDepth 20000 in
theorem t_146_118 {Ls : Nat} {xs : Nat → Int32} : am_tbl Ls xs 146 118 = some (o_callv 159 2 3 3) := (m_146 118).trans rfl
set_option maxRecDepth 20000 in
theorem t_146_121 {Ls : Nat} {xs : Nat → Int32} : am_tbl Ls xs 146 121 = some (o_nrm [] (o_vret)) := (m_146 121).trans rfl
theorem m_147 {Ls : Nat} {xs : Nat → Int32} (pc : Nat) : am_tbl Ls xs 147 pc = am_lk (op_X3_readGround) pc := rfl
theorem t_147_0 {Ls : Nat} {xs : Nat → Int32} : am_tbl Ls xs 147 0 = some (o_aload 0 1) := (m_147 0).trans rfl
theorem t_147_1 {Ls : Nat} {xs : Nat → Int32} : am_tbl Ls xs 147 1 = some (o_iload 2 1) := (m_147 1).trans rfl
theorem t_147_2 {Ls : Nat} {xs : Nat → Int32} : am_tbl Ls xs 147 2 = some (o_push (.ref (1000000 + 0)) 2) := (m_147 2).trans rfl
theorem t_147_4 {Ls : Nat} {xs : Nat → Int32} : am_tbl Ls xs 147 4 = some (o_callv 158 2 3 4) := (m_147 4).trans rfl
theorem t_147_7 {Ls : Nat} {xs : Nat → Int32} : am_tbl Ls xs 147 7 = some (o_if (fun x => decide (x ≠ 0)) 16) := (m_147 7).trans rfl
theorem t_147_10 {Ls : Nat} {xs : Nat → Int32} : am_tbl Ls xs 147 10 = some (o_aload 0 1) := (m_147 10).trans rfl
theorem t_147_11 {Ls : Nat} {xs : Nat → Int32} : am_tbl Ls xs 147 11 = some (o_push (.int 1) 1) := (m_147 11).trans rfl
theorem t_147_12 {Ls : Nat} {xs : Nat → Int32} : am_tbl Ls xs 147 12 = some (o_iload 2 1) := (m_147 12).trans rfl
theorem t_147_13 {Ls : Nat} {xs : Nat → Int32} : am_tbl Ls xs 147 13 = some (o_callv 159 2 3 3) := (m_147 13).trans rfl
theorem t_147_16 {Ls : Nat} {xs : Nat → Int32} : am_tbl Ls xs 147 16 = some (o_nrm [0, 1] (o_aload 0 1)) := (m_147 16).trans rfl
theorem t_147_17 {Ls : Nat} {xs : Nat → Int32} : am_tbl Ls xs 147 17 = some (o_push (.int 1) 1) := (m_147 17).trans rfl
theorem t_147_18 {Ls : Nat} {xs : Nat → Int32} : am_tbl Ls xs 147 18 = some (o_push (.int 9) 2) := (m_147 18).trans rfl
theorem t_147_20 {Ls : Nat} {xs : Nat → Int32} : am_tbl Ls xs 147 20 = some (o_callv 153 2 3 6) := (m_147 20).trans rfl
theorem t_147_23 {Ls : Nat} {xs : Nat → Int32} : am_tbl Ls xs 147 23 = some (o_istore 3 1) := (m_147 23).trans rfl
theorem t_147_24 {Ls : Nat} {xs : Nat → Int32} : am_tbl Ls xs 147 24 = some (o_aload 0 1) := (m_147 24).trans rfl
theorem t_147_25 {Ls : Nat} {xs : Nat → Int32} : am_tbl Ls xs 147 25 = some (o_push (.int 1) 1) := (m_147 25).trans rfl
theorem t_147_26 {Ls : Nat} {xs : Nat → Int32} : am_tbl Ls xs 147 26 = some (o_push (.int 9) 2) := (m_147 26).trans rfl
theorem t_147_28 {Ls : Nat} {xs : Nat → Int32} : am_tbl Ls xs 147 28 = some (o_callv 153 2 3 6) := (m_147 28).trans rfl
theorem t_147_31 {Ls : Nat} {xs : Nat → Int32} : am_tbl Ls xs 147 31 = some (o_istore 4 2) := (m_147 31).trans rfl
theorem t_147_33 {Ls : Nat} {xs : Nat → Int32} : am_tbl Ls xs 147 33 = some (o_iload 3 1) := (m_147 33).trans rfl
theorem t_147_34 {Ls : Nat} {xs : Nat → Int32} : am_tbl Ls xs 147 34 = some (o_iload 4 2) := (m_147 34).trans rfl
theorem t_147_36 {Ls : Nat} {xs : Nat → Int32} : am_tbl Ls xs 147 36 = some (o_ibin (fun x y => x * y)) := (m_147 36).trans rfl
theorem t_147_37 {Ls : Nat} {xs : Nat → Int32} : am_tbl Ls xs 147 37 = some (o_push (.int 48) 2) := (m_147 37).trans rfl
theorem t_147_39 {Ls : Nat} {xs : Nat → Int32} : am_tbl Ls xs 147 39 = some (o_icmp (fun x y => decide (x ≤ y)) 51) := (m_147 39).trans rfl
theorem t_147_42 {Ls : Nat} {xs : Nat → Int32} : am_tbl Ls xs 147 42 = some (o_aload 0 1) := (m_147 42).trans rfl
theorem t_147_43 {Ls : Nat} {xs : Nat → Int32} : am_tbl Ls xs 147 43 = some (o_push (.int 2) 1) := (m_147 43).trans rfl
theorem t_147_44 {Ls : Nat} {xs : Nat → Int32} : am_tbl Ls xs 147 44 = some (o_aload 0 1) := (m_147 44).trans rfl
theorem t_147_45 {Ls : Nat} {xs : Nat → Int32} : am_tbl Ls xs 147 45 = some (o_get 3 3) := (m_147 45).trans rfl
theorem t_147_48 {Ls : Nat} {xs : Nat → Int32} : am_tbl Ls xs 147 48 = some (o_callv 159 2 3 3) := (m_147 48).trans rfl
theorem t_147_51 {Ls : Nat} {xs : Nat → Int32} : am_tbl Ls xs 147 51 = some (o_nrm [0, 1, 3, 4] (o_aload 0 1)) := (m_147 51).trans rfl
theorem t_147_52 {Ls : Nat} {xs : Nat → Int32} : am_tbl Ls xs 147 52 = some (o_callv 154 0 3 1) := (m_147 52).trans rfl
theorem t_147_55 {Ls : Nat} {xs : Nat → Int32} : am_tbl Ls xs 147 55 = some (o_aload 0 1) := (m_147 55).trans rfl
theorem t_147_56 {Ls : Nat} {xs : Nat → Int32} : am_tbl Ls xs 147 56 = some (o_get 3 2) := (m_147 56).trans rfl
theorem t_147_59 {Ls : Nat} {xs : Nat → Int32} : am_tbl Ls xs 147 59 = some (o_if (fun x => decide (x ≠ 0)) 69) := (m_147 59).trans rfl
theorem t_147_62 {Ls : Nat} {xs : Nat → Int32} : am_tbl Ls xs 147 62 = some (o_aload 1 1) := (m_147 62).trans rfl
theorem t_147_63 {Ls : Nat} {xs : Nat → Int32} : am_tbl Ls xs 147 63 = some (o_iload 3 1) := (m_147 63).trans rfl
theorem t_147_64 {Ls : Nat} {xs : Nat → Int32} : am_tbl Ls xs 147 64 = some (o_iload 4 2) := (m_147 64).trans rfl
theorem t_147_66 {Ls : Nat} {xs : Nat → Int32} : am_tbl Ls xs 147 66 = some (o_callv 129 2 2 5) := (m_147 66).trans rfl
theorem t_147_69 {Ls : Nat} {xs : Nat → Int32} : am_tbl Ls xs 147 69 = some (o_nrm [] (o_vret)) := (m_147 69).trans rfl
theorem m_148 {Ls : Nat} {xs : Nat → Int32} (pc : Nat) : am_tbl Ls xs 148 pc = am_lk (op_X3_readHouse) pc := rfl
theorem t_148_0 {Ls : Nat} {xs : Nat → Int32} : am_tbl Ls xs 148 0 = some (o_aload 0 1) := (m_148 0).trans rfl
theorem t_148_1 {Ls : Nat} {xs : Nat → Int32} : am_tbl Ls xs 148 1 = some (o_get 3 4) := (m_148 1).trans rfl
theorem t_148_4 {Ls : Nat} {xs : Nat → Int32} : am_tbl Ls xs 148 4 = some (o_push (.int 15) 2) := (m_148 4).trans rfl
theorem t_148_6 {Ls : Nat} {xs : Nat → Int32} : am_tbl Ls xs 148 6 = some (o_icmp (fun x y => decide (x < y)) 15) := (m_148 6).trans rfl
theorem t_148_9 {Ls : Nat} {xs : Nat → Int32} : am_tbl Ls xs 148 9 = some (o_aload 0 1) := (m_148 9).trans rfl
theorem t_148_10 {Ls : Nat} {xs : Nat → Int32} : am_tbl Ls xs 148 10 = some (o_push (.int 3) 1) := (m_148 10).trans rfl
theorem t_148_11 {Ls : Nat} {xs : Nat → Int32} : am_tbl Ls xs 148 11 = some (o_iload 2 1) := (m_148 11).trans rfl
theorem t_148_12 {Ls : Nat} {xs : Nat → Int32} : am_tbl Ls xs 148 12 = some (o_callv 159 2 3 3) := (m_148 12).trans rfl
theorem t_148_15 {Ls : Nat} {xs : Nat → Int32} : am_tbl Ls xs 148 15 = some (o_nrm [0, 1] (o_aload 0 1)) := (m_148 15).trans rfl
theorem t_148_16 {Ls : Nat} {xs : Nat → Int32} : am_tbl Ls xs 148 16 = some (o_aload 1 1) := (m_148 16).trans rfl
theorem t_148_17 {Ls : Nat} {xs : Nat → Int32} : am_tbl Ls xs 148 17 = some (o_callv 152 1 3 5) := (m_148 17).trans rfl
theorem t_148_20 {Ls : Nat} {xs : Nat → Int32} : am_tbl Ls xs 148 20 = some (o_istore 3 1) := (m_148 20).trans rfl
theorem t_148_21 {Ls : Nat} {xs : Nat → Int32} : am_tbl Ls xs 148 21 = some (o_aload 1 1) := (m_148 21).trans rfl
theorem t_148_22 {Ls : Nat} {xs : Nat → Int32} : am_tbl Ls xs 148 22 = some (o_iload 3 1) := (m_148 22).trans rfl
theorem t_148_23 {Ls : Nat} {xs : Nat → Int32} : am_tbl Ls xs 148 23 = some (o_callv 136 1 2 3) := (m_148 23).trans rfl
theorem t_148_26 {Ls : Nat} {xs : Nat → Int32} : am_tbl Ls xs 148 26 = some (o_if (fun x => decide (x = 0)) 38) := (m_148 26).trans rfl
theorem t_148_29 {Ls : Nat} {xs : Nat → Int32} : am_tbl Ls xs 148 29 = some (o_aload 0 1) := (m_148 29).trans rfl
theorem t_148_30 {Ls : Nat} {xs : Nat → Int32} : am_tbl Ls xs 148 30 = some (o_push (.int 4) 1) := (m_148 30).trans rfl
theorem t_148_31 {Ls : Nat} {xs : Nat → Int32} : am_tbl Ls xs 148 31 = some (o_aload 0 1) := (m_148 31).trans rfl
theorem t_148_32 {Ls : Nat} {xs : Nat → Int32} : am_tbl Ls xs 148 32 = some (o_get 3 3) := (m_148 32).trans rfl
theorem t_148_35 {Ls : Nat} {xs : Nat → Int32} : am_tbl Ls xs 148 35 = some (o_callv 159 2 3 3) := (m_148 35).trans rfl
theorem t_148_38 {Ls : Nat} {xs : Nat → Int32} : am_tbl Ls xs 148 38 = some (o_nrm [0, 1, 3] (o_aload 0 1)) := (m_148 38).trans rfl
theorem t_148_39 {Ls : Nat} {xs : Nat → Int32} : am_tbl Ls xs 148 39 = some (o_push (.int 1) 1) := (m_148 39).trans rfl
theorem t_148_40 {Ls : Nat} {xs : Nat → Int32} : am_tbl Ls xs 148 40 = some (o_push (.int 9) 2) := (m_148 40).trans rfl
theorem t_148_42 {Ls : Nat} {xs : Nat → Int32} : am_tbl Ls xs 148 42 = some (o_callv 153 2 3 6) := (m_148 42).trans rfl
theorem t_148_45 {Ls : Nat} {xs : Nat → Int32} : am_tbl Ls xs 148 45 = some (o_istore 4 2) := (m_148 45).trans rfl
theorem t_148_47 {Ls : Nat} {xs : Nat → Int32} : am_tbl Ls xs 148 47 = some (o_aload 0 1) := (m_148 47).trans rfl
theorem t_148_48 {Ls : Nat} {xs : Nat → Int32} : am_tbl Ls xs 148 48 = some (o_callv 154 0 3 1) := (m_148 48).trans rfl
theorem t_148_51 {Ls : Nat} {xs : Nat → Int32} : am_tbl Ls xs 148 51 = some (o_aload 0 1) := (m_148 51).trans rfl
theorem t_148_52 {Ls : Nat} {xs : Nat → Int32} : am_tbl Ls xs 148 52 = some (o_get 3 2) := (m_148 52).trans rfl
theorem t_148_55 {Ls : Nat} {xs : Nat → Int32} : am_tbl Ls xs 148 55 = some (o_if (fun x => decide (x ≠ 0)) 75) := (m_148 55).trans rfl
theorem t_148_58 {Ls : Nat} {xs : Nat → Int32} : am_tbl Ls xs 148 58 = some (o_aload 1 1) := (m_148 58).trans rfl
theorem t_148_59 {Ls : Nat} {xs : Nat → Int32} : am_tbl Ls xs 148 59 = some (o_iload 3 1) := (m_148 59).trans rfl
theorem t_148_60 {Ls : Nat} {xs : Nat → Int32} : am_tbl Ls xs 148 60 = some (o_iload 4 2) := (m_148 60).trans rfl
theorem t_148_62 {Ls : Nat} {xs : Nat → Int32} : am_tbl Ls xs 148 62 = some (o_callv 130 2 2 3) := (m_148 62).trans rfl
theorem t_148_65 {Ls : Nat} {xs : Nat → Int32} : am_tbl Ls xs 148 65 = some (o_aload 0 1) := (m_148 65).trans rfl
theorem t_148_66 {Ls : Nat} {xs : Nat → Int32} : am_tbl Ls xs 148 66 = some (o_dup) := (m_148 66).trans rfl
theorem t_148_67 {Ls : Nat} {xs : Nat → Int32} : am_tbl Ls xs 148 67 = some (o_get 3 4) := (m_148 67).trans rfl
theorem t_148_70 {Ls : Nat} {xs : Nat → Int32} : am_tbl Ls xs 148 70 = some (o_push (.int 1) 1) := (m_148 70).trans rfl
theorem t_148_71 {Ls : Nat} {xs : Nat → Int32} : am_tbl Ls xs 148 71 = some (o_ibin (fun x y => x + y)) := (m_148 71).trans rfl
theorem t_148_72 {Ls : Nat} {xs : Nat → Int32} : am_tbl Ls xs 148 72 = some (o_puti 3 4) := (m_148 72).trans rfl
theorem t_148_75 {Ls : Nat} {xs : Nat → Int32} : am_tbl Ls xs 148 75 = some (o_nrm [] (o_vret)) := (m_148 75).trans rfl
theorem m_149 {Ls : Nat} {xs : Nat → Int32} (pc : Nat) : am_tbl Ls xs 149 pc = am_lk (op_X3_readSun) pc := rfl
theorem t_149_0 {Ls : Nat} {xs : Nat → Int32} : am_tbl Ls xs 149 0 = some (o_aload 1 1) := (m_149 0).trans rfl
theorem t_149_1 {Ls : Nat} {xs : Nat → Int32} : am_tbl Ls xs 149 1 = some (o_get 2 3) := (m_149 1).trans rfl
theorem t_149_4 {Ls : Nat} {xs : Nat → Int32} : am_tbl Ls xs 149 4 = some (o_push (.int 6) 2) := (m_149 4).trans rfl
theorem t_149_6 {Ls : Nat} {xs : Nat → Int32} : am_tbl Ls xs 149 6 = some (o_icmp (fun x y => decide (x < y)) 15) := (m_149 6).trans rfl
theorem t_149_9 {Ls : Nat} {xs : Nat → Int32} : am_tbl Ls xs 149 9 = some (o_aload 0 1) := (m_149 9).trans rfl
theorem t_149_10 {Ls : Nat} {xs : Nat → Int32} : am_tbl Ls xs 149 10 = some (o_push (.int 3) 1) := (m_149 10).trans rfl
theorem t_149_11 {Ls : Nat} {xs : Nat → Int32} : am_tbl Ls xs 149 11 = some (o_iload 2 1) := (m_149 11).trans rfl
theorem t_149_12 {Ls : Nat} {xs : Nat → Int32} : am_tbl Ls xs 149 12 = some (o_callv 159 2 3 3) := (m_149 12).trans rfl
theorem t_149_15 {Ls : Nat} {xs : Nat → Int32} : am_tbl Ls xs 149 15 = some (o_nrm [0, 1] (o_aload 0 1)) := (m_149 15).trans rfl
theorem t_149_16 {Ls : Nat} {xs : Nat → Int32} : am_tbl Ls xs 149 16 = some (o_push (.int 0) 1) := (m_149 16).trans rfl
theorem t_149_17 {Ls : Nat} {xs : Nat → Int32} : am_tbl Ls xs 149 17 = some (o_push (.int 2) 1) := (m_149 17).trans rfl
theorem t_149_18 {Ls : Nat} {xs : Nat → Int32} : am_tbl Ls xs 149 18 = some (o_callv 153 2 3 6) := (m_149 18).trans rfl
theorem t_149_21 {Ls : Nat} {xs : Nat → Int32} : am_tbl Ls xs 149 21 = some (o_push (.int 1) 1) := (m_149 21).trans rfl
theorem t_149_22 {Ls : Nat} {xs : Nat → Int32} : am_tbl Ls xs 149 22 = some (o_ibin (fun x y => x - y)) := (m_149 22).trans rfl
theorem t_149_23 {Ls : Nat} {xs : Nat → Int32} : am_tbl Ls xs 149 23 = some (o_istore 3 1) := (m_149 23).trans rfl
theorem t_149_24 {Ls : Nat} {xs : Nat → Int32} : am_tbl Ls xs 149 24 = some (o_aload 0 1) := (m_149 24).trans rfl
theorem t_149_25 {Ls : Nat} {xs : Nat → Int32} : am_tbl Ls xs 149 25 = some (o_push (.int 0) 1) := (m_149 25).trans rfl
theorem t_149_26 {Ls : Nat} {xs : Nat → Int32} : am_tbl Ls xs 149 26 = some (o_push (.int 2) 1) := (m_149 26).trans rfl
theorem t_149_27 {Ls : Nat} {xs : Nat → Int32} : am_tbl Ls xs 149 27 = some (o_callv 153 2 3 6) := (m_149 27).trans rfl
theorem t_149_30 {Ls : Nat} {xs : Nat → Int32} : am_tbl Ls xs 149 30 = some (o_push (.int 1) 1) := (m_149 30).trans rfl
theorem t_149_31 {Ls : Nat} {xs : Nat → Int32} : am_tbl Ls xs 149 31 = some (o_ibin (fun x y => x - y)) := (m_149 31).trans rfl
theorem t_149_32 {Ls : Nat} {xs : Nat → Int32} : am_tbl Ls xs 149 32 = some (o_istore 4 2) := (m_149 32).trans rfl
theorem t_149_34 {Ls : Nat} {xs : Nat → Int32} : am_tbl Ls xs 149 34 = some (o_iload 3 1) := (m_149 34).trans rfl
theorem t_149_35 {Ls : Nat} {xs : Nat → Int32} : am_tbl Ls xs 149 35 = some (o_if (fun x => decide (x ≠ 0)) 52) := (m_149 35).trans rfl
theorem t_149_38 {Ls : Nat} {xs : Nat → Int32} : am_tbl Ls xs 149 38 = some (o_iload 4 2) := (m_149 38).trans rfl
theorem t_149_40 {Ls : Nat} {xs : Nat → Int32} : am_tbl Ls xs 149 40 = some (o_if (fun x => decide (x ≠ 0)) 52) := (m_149 40).trans rfl
theorem t_149_43 {Ls : Nat} {xs : Nat → Int32} : am_tbl Ls xs 149 43 = some (o_aload 0 1) := (m_149 43).trans rfl
theorem t_149_44 {Ls : Nat} {xs : Nat → Int32} : am_tbl Ls xs 149 44 = some (o_push (.int 4) 1) := (m_149 44).trans rfl
theorem t_149_45 {Ls : Nat} {xs : Nat → Int32} : am_tbl Ls xs 149 45 = some (o_aload 0 1) := (m_149 45).trans rfl
theorem t_149_46 {Ls : Nat} {xs : Nat → Int32} : am_tbl Ls xs 149 46 = some (o_get 3 3) := (m_149 46).trans rfl
theorem t_149_49 {Ls : Nat} {xs : Nat → Int32} : am_tbl Ls xs 149 49 = some (o_callv 159 2 3 3) := (m_149 49).trans rfl
theorem t_149_52 {Ls : Nat} {xs : Nat → Int32} : am_tbl Ls xs 149 52 = some (o_nrm [0, 1, 3, 4] (o_aload 0 1)) := (m_149 52).trans rfl
theorem t_149_53 {Ls : Nat} {xs : Nat → Int32} : am_tbl Ls xs 149 53 = some (o_push (.int 0) 1) := (m_149 53).trans rfl
theorem t_149_54 {Ls : Nat} {xs : Nat → Int32} : am_tbl Ls xs 149 54 = some (o_push (.int 3) 1) := (m_149 54).trans rfl
theorem t_149_55 {Ls : Nat} {xs : Nat → Int32} : am_tbl Ls xs 149 55 = some (o_callv 153 2 3 6) := (m_149 55).trans rfl
theorem t_149_58 {Ls : Nat} {xs : Nat → Int32} : am_tbl Ls xs 149 58 = some (o_istore 5 2) := (m_149 58).trans rfl
theorem t_149_60 {Ls : Nat} {xs : Nat → Int32} : am_tbl Ls xs 149 60 = some (o_aload 0 1) := (m_149 60).trans rfl
theorem t_149_61 {Ls : Nat} {xs : Nat → Int32} : am_tbl Ls xs 149 61 = some (o_push (.int 0) 1) := (m_149 61).trans rfl
theorem t_149_62 {Ls : Nat} {xs : Nat → Int32} : am_tbl Ls xs 149 62 = some (o_push (.int 20) 2) := (m_149 62).trans rfl
theorem t_149_64 {Ls : Nat} {xs : Nat → Int32} : am_tbl Ls xs 149 64 = some (o_callv 153 2 3 6) := (m_149 64).trans rfl
theorem t_149_67 {Ls : Nat} {xs : Nat → Int32} : am_tbl Ls xs 149 67 = some (o_istore 6 2) := (m_149 67).trans rfl
theorem t_149_69 {Ls : Nat} {xs : Nat → Int32} : am_tbl Ls xs 149 69 = some (o_aload 0 1) := (m_149 69).trans rfl
theorem t_149_70 {Ls : Nat} {xs : Nat → Int32} : am_tbl Ls xs 149 70 = some (o_callv 154 0 3 1) := (m_149 70).trans rfl
theorem t_149_73 {Ls : Nat} {xs : Nat → Int32} : am_tbl Ls xs 149 73 = some (o_aload 0 1) := (m_149 73).trans rfl
theorem t_149_74 {Ls : Nat} {xs : Nat → Int32} : am_tbl Ls xs 149 74 = some (o_get 3 2) := (m_149 74).trans rfl
theorem t_149_77 {Ls : Nat} {xs : Nat → Int32} : am_tbl Ls xs 149 77 = some (o_if (fun x => decide (x ≠ 0)) 91) := (m_149 77).trans rfl
theorem t_149_80 {Ls : Nat} {xs : Nat → Int32} : am_tbl Ls xs 149 80 = some (o_aload 1 1) := (m_149 80).trans rfl
theorem t_149_81 {Ls : Nat} {xs : Nat → Int32} : am_tbl Ls xs 149 81 = some (o_iload 3 1) := (m_149 81).trans rfl
theorem t_149_82 {Ls : Nat} {xs : Nat → Int32} : am_tbl Ls xs 149 82 = some (o_iload 4 2) := (m_149 82).trans rfl
theorem t_149_84 {Ls : Nat} {xs : Nat → Int32} : am_tbl Ls xs 149 84 = some (o_iload 5 2) := (m_149 84).trans rfl
theorem t_149_86 {Ls : Nat} {xs : Nat → Int32} : am_tbl Ls xs 149 86 = some (o_iload 6 2) := (m_149 86).trans rfl
theorem t_149_88 {Ls : Nat} {xs : Nat → Int32} : am_tbl Ls xs 149 88 = some (o_callv 131 4 2 6) := (m_149 88).trans rfl
theorem t_149_91 {Ls : Nat} {xs : Nat → Int32} : am_tbl Ls xs 149 91 = some (o_nrm [] (o_vret)) := (m_149 91).trans rfl
theorem m_150 {Ls : Nat} {xs : Nat → Int32} (pc : Nat) : am_tbl Ls xs 150 pc = am_lk (op_X3_readPerson) pc := rfl
theorem t_150_0 {Ls : Nat} {xs : Nat → Int32} : am_tbl Ls xs 150 0 = some (o_aload 1 1) := (m_150 0).trans rfl
theorem t_150_1 {Ls : Nat} {xs : Nat → Int32} : am_tbl Ls xs 150 1 = some (o_get 2 4) := (m_150 1).trans rfl
theorem t_150_4 {Ls : Nat} {xs : Nat → Int32} : am_tbl Ls xs 150 4 = some (o_push (.int 6) 2) := (m_150 4).trans rfl
theorem t_150_6 {Ls : Nat} {xs : Nat → Int32} : am_tbl Ls xs 150 6 = some (o_icmp (fun x y => decide (x < y)) 15) := (m_150 6).trans rfl
theorem t_150_9 {Ls : Nat} {xs : Nat → Int32} : am_tbl Ls xs 150 9 = some (o_aload 0 1) := (m_150 9).trans rfl
theorem t_150_10 {Ls : Nat} {xs : Nat → Int32} : am_tbl Ls xs 150 10 = some (o_push (.int 3) 1) := (m_150 10).trans rfl
theorem t_150_11 {Ls : Nat} {xs : Nat → Int32} : am_tbl Ls xs 150 11 = some (o_iload 2 1) := (m_150 11).trans rfl
theorem t_150_12 {Ls : Nat} {xs : Nat → Int32} : am_tbl Ls xs 150 12 = some (o_callv 159 2 3 3) := (m_150 12).trans rfl
theorem t_150_15 {Ls : Nat} {xs : Nat → Int32} : am_tbl Ls xs 150 15 = some (o_nrm [0, 1] (o_aload 0 1)) := (m_150 15).trans rfl
theorem t_150_16 {Ls : Nat} {xs : Nat → Int32} : am_tbl Ls xs 150 16 = some (o_aload 1 1) := (m_150 16).trans rfl
theorem t_150_17 {Ls : Nat} {xs : Nat → Int32} : am_tbl Ls xs 150 17 = some (o_callv 152 1 3 5) := (m_150 17).trans rfl
theorem t_150_20 {Ls : Nat} {xs : Nat → Int32} : am_tbl Ls xs 150 20 = some (o_istore 3 1) := (m_150 20).trans rfl
theorem t_150_21 {Ls : Nat} {xs : Nat → Int32} : am_tbl Ls xs 150 21 = some (o_aload 0 1) := (m_150 21).trans rfl
theorem t_150_22 {Ls : Nat} {xs : Nat → Int32} : am_tbl Ls xs 150 22 = some (o_push (.int 1) 1) := (m_150 22).trans rfl
theorem t_150_23 {Ls : Nat} {xs : Nat → Int32} : am_tbl Ls xs 150 23 = some (o_push (.int 9) 2) := (m_150 23).trans rfl
theorem t_150_25 {Ls : Nat} {xs : Nat → Int32} : am_tbl Ls xs 150 25 = some (o_callv 153 2 3 6) := (m_150 25).trans rfl
theorem t_150_28 {Ls : Nat} {xs : Nat → Int32} : am_tbl Ls xs 150 28 = some (o_istore 4 2) := (m_150 28).trans rfl
theorem t_150_30 {Ls : Nat} {xs : Nat → Int32} : am_tbl Ls xs 150 30 = some (o_aload 0 1) := (m_150 30).trans rfl
theorem t_150_31 {Ls : Nat} {xs : Nat → Int32} : am_tbl Ls xs 150 31 = some (o_callv 154 0 3 1) := (m_150 31).trans rfl
theorem t_150_34 {Ls : Nat} {xs : Nat → Int32} : am_tbl Ls xs 150 34 = some (o_aload 0 1) := (m_150 34).trans rfl
theorem t_150_35 {Ls : Nat} {xs : Nat → Int32} : am_tbl Ls xs 150 35 = some (o_get 3 2) := (m_150 35).trans rfl
theorem t_150_38 {Ls : Nat} {xs : Nat → Int32} : am_tbl Ls xs 150 38 = some (o_if (fun x => decide (x ≠ 0)) 48) := (m_150 38).trans rfl
theorem t_150_41 {Ls : Nat} {xs : Nat → Int32} : am_tbl Ls xs 150 41 = some (o_aload 1 1) := (m_150 41).trans rfl
theorem t_150_42 {Ls : Nat} {xs : Nat → Int32} : am_tbl Ls xs 150 42 = some (o_iload 3 1) := (m_150 42).trans rfl
theorem t_150_43 {Ls : Nat} {xs : Nat → Int32} : am_tbl Ls xs 150 43 = some (o_iload 4 2) := (m_150 43).trans rfl
theorem t_150_45 {Ls : Nat} {xs : Nat → Int32} : am_tbl Ls xs 150 45 = some (o_callv 132 2 2 3) := (m_150 45).trans rfl
theorem t_150_48 {Ls : Nat} {xs : Nat → Int32} : am_tbl Ls xs 150 48 = some (o_nrm [] (o_vret)) := (m_150 48).trans rfl
theorem m_151 {Ls : Nat} {xs : Nat → Int32} (pc : Nat) : am_tbl Ls xs 151 pc = am_lk (op_X3_readGrey) pc := rfl
theorem t_151_0 {Ls : Nat} {xs : Nat → Int32} : am_tbl Ls xs 151 0 = some (o_aload 0 1) := (m_151 0).trans rfl
theorem t_151_1 {Ls : Nat} {xs : Nat → Int32} : am_tbl Ls xs 151 1 = some (o_get 3 5) := (m_151 1).trans rfl
theorem t_151_4 {Ls : Nat} {xs : Nat → Int32} : am_tbl Ls xs 151 4 = some (o_if (fun x => decide (x = 0)) 13) := (m_151 4).trans rfl
theorem t_151_7 {Ls : Nat} {xs : Nat → Int32} : am_tbl Ls xs 151 7 = some (o_aload 0 1) := (m_151 7).trans rfl
theorem t_151_8 {Ls : Nat} {xs : Nat → Int32} : am_tbl Ls xs 151 8 = some (o_push (.int 3) 1) := (m_151 8).trans rfl
theorem t_151_9 {Ls : Nat} {xs : Nat → Int32} : am_tbl Ls xs 151 9 = some (o_iload 2 1) := (m_151 9).trans rfl
theorem t_151_10 {Ls : Nat} {xs : Nat → Int32} : am_tbl Ls xs 151 10 = some (o_callv 159 2 3 3) := (m_151 10).trans rfl
theorem t_151_13 {Ls : Nat} {xs : Nat → Int32} : am_tbl Ls xs 151 13 = some (o_nrm [0, 1] (o_aload 0 1)) := (m_151 13).trans rfl
theorem t_151_14 {Ls : Nat} {xs : Nat → Int32} : am_tbl Ls xs 151 14 = some (o_push (.int 0) 1) := (m_151 14).trans rfl
theorem t_151_15 {Ls : Nat} {xs : Nat → Int32} : am_tbl Ls xs 151 15 = some (o_push (.int 100) 2) := (m_151 15).trans rfl
theorem t_151_17 {Ls : Nat} {xs : Nat → Int32} : am_tbl Ls xs 151 17 = some (o_callv 153 2 3 6) := (m_151 17).trans rfl
theorem t_151_20 {Ls : Nat} {xs : Nat → Int32} : am_tbl Ls xs 151 20 = some (o_istore 3 1) := (m_151 20).trans rfl
theorem t_151_21 {Ls : Nat} {xs : Nat → Int32} : am_tbl Ls xs 151 21 = some (o_aload 0 1) := (m_151 21).trans rfl
theorem t_151_22 {Ls : Nat} {xs : Nat → Int32} : am_tbl Ls xs 151 22 = some (o_callv 154 0 3 1) := (m_151 22).trans rfl
theorem t_151_25 {Ls : Nat} {xs : Nat → Int32} : am_tbl Ls xs 151 25 = some (o_aload 0 1) := (m_151 25).trans rfl
theorem t_151_26 {Ls : Nat} {xs : Nat → Int32} : am_tbl Ls xs 151 26 = some (o_get 3 2) := (m_151 26).trans rfl
theorem t_151_29 {Ls : Nat} {xs : Nat → Int32} : am_tbl Ls xs 151 29 = some (o_if (fun x => decide (x ≠ 0)) 42) := (m_151 29).trans rfl
theorem t_151_32 {Ls : Nat} {xs : Nat → Int32} : am_tbl Ls xs 151 32 = some (o_aload 1 1) := (m_151 32).trans rfl
theorem t_151_33 {Ls : Nat} {xs : Nat → Int32} : am_tbl Ls xs 151 33 = some (o_iload 3 1) := (m_151 33).trans rfl
theorem t_151_34 {Ls : Nat} {xs : Nat → Int32} : am_tbl Ls xs 151 34 = some (o_puti 2 5) := (m_151 34).trans rfl
theorem t_151_37 {Ls : Nat} {xs : Nat → Int32} : am_tbl Ls xs 151 37 = some (o_aload 0 1) := (m_151 37).trans rfl
theorem t_151_38 {Ls : Nat} {xs : Nat → Int32} : am_tbl Ls xs 151 38 = some (o_push (.int 1) 1) := (m_151 38).trans rfl
theorem t_151_39 {Ls : Nat} {xs : Nat → Int32} : am_tbl Ls xs 151 39 = some (o_putz 3 5) := (m_151 39).trans rfl
theorem t_151_42 {Ls : Nat} {xs : Nat → Int32} : am_tbl Ls xs 151 42 = some (o_nrm [] (o_vret)) := (m_151 42).trans rfl
theorem m_152 {Ls : Nat} {xs : Nat → Int32} (pc : Nat) : am_tbl Ls xs 152 pc = am_lk (op_X3_readCell) pc := rfl
theorem t_152_0 {Ls : Nat} {xs : Nat → Int32} : am_tbl Ls xs 152 0 = some (o_aload 0 1) := (m_152 0).trans rfl
theorem t_152_1 {Ls : Nat} {xs : Nat → Int32} : am_tbl Ls xs 152 1 = some (o_push (.int 0) 1) := (m_152 1).trans rfl
theorem t_152_2 {Ls : Nat} {xs : Nat → Int32} : am_tbl Ls xs 152 2 = some (o_aload 1 1) := (m_152 2).trans rfl
theorem t_152_3 {Ls : Nat} {xs : Nat → Int32} : am_tbl Ls xs 152 3 = some (o_get 2 0) := (m_152 3).trans rfl
theorem t_152_6 {Ls : Nat} {xs : Nat → Int32} : am_tbl Ls xs 152 6 = some (o_push (.int 1) 1) := (m_152 6).trans rfl
theorem t_152_7 {Ls : Nat} {xs : Nat → Int32} : am_tbl Ls xs 152 7 = some (o_ibin (fun x y => x - y)) := (m_152 7).trans rfl
theorem t_152_8 {Ls : Nat} {xs : Nat → Int32} : am_tbl Ls xs 152 8 = some (o_callv 153 2 3 6) := (m_152 8).trans rfl
theorem t_152_11 {Ls : Nat} {xs : Nat → Int32} : am_tbl Ls xs 152 11 = some (o_istore 2 1) := (m_152 11).trans rfl
theorem t_152_12 {Ls : Nat} {xs : Nat → Int32} : am_tbl Ls xs 152 12 = some (o_aload 0 1) := (m_152 12).trans rfl
theorem t_152_13 {Ls : Nat} {xs : Nat → Int32} : am_tbl Ls xs 152 13 = some (o_push (.int 0) 1) := (m_152 13).trans rfl
theorem t_152_14 {Ls : Nat} {xs : Nat → Int32} : am_tbl Ls xs 152 14 = some (o_aload 1 1) := (m_152 14).trans rfl
theorem t_152_15 {Ls : Nat} {xs : Nat → Int32} : am_tbl Ls xs 152 15 = some (o_get 2 1) := (m_152 15).trans rfl
theorem t_152_18 {Ls : Nat} {xs : Nat → Int32} : am_tbl Ls xs 152 18 = some (o_push (.int 1) 1) := (m_152 18).trans rfl
theorem t_152_19 {Ls : Nat} {xs : Nat → Int32} : am_tbl Ls xs 152 19 = some (o_ibin (fun x y => x - y)) := (m_152 19).trans rfl
theorem t_152_20 {Ls : Nat} {xs : Nat → Int32} : am_tbl Ls xs 152 20 = some (o_callv 153 2 3 6) := (m_152 20).trans rfl
theorem t_152_23 {Ls : Nat} {xs : Nat → Int32} : am_tbl Ls xs 152 23 = some (o_istore 3 1) := (m_152 23).trans rfl
theorem t_152_24 {Ls : Nat} {xs : Nat → Int32} : am_tbl Ls xs 152 24 = some (o_aload 1 1) := (m_152 24).trans rfl
theorem t_152_25 {Ls : Nat} {xs : Nat → Int32} : am_tbl Ls xs 152 25 = some (o_iload 2 1) := (m_152 25).trans rfl
theorem t_152_26 {Ls : Nat} {xs : Nat → Int32} : am_tbl Ls xs 152 26 = some (o_iload 3 1) := (m_152 26).trans rfl
theorem t_152_27 {Ls : Nat} {xs : Nat → Int32} : am_tbl Ls xs 152 27 = some (o_callv 137 2 2 3) := (m_152 27).trans rfl
theorem t_152_30 {Ls : Nat} {xs : Nat → Int32} : am_tbl Ls xs 152 30 = some (o_istore 4 2) := (m_152 30).trans rfl
theorem t_152_32 {Ls : Nat} {xs : Nat → Int32} : am_tbl Ls xs 152 32 = some (o_aload 1 1) := (m_152 32).trans rfl
theorem t_152_33 {Ls : Nat} {xs : Nat → Int32} : am_tbl Ls xs 152 33 = some (o_iload 4 2) := (m_152 33).trans rfl
theorem t_152_35 {Ls : Nat} {xs : Nat → Int32} : am_tbl Ls xs 152 35 = some (o_callv 133 1 2 2) := (m_152 35).trans rfl
theorem t_152_38 {Ls : Nat} {xs : Nat → Int32} : am_tbl Ls xs 152 38 = some (o_if (fun x => decide (x = 0)) 60) := (m_152 38).trans rfl
theorem t_152_41 {Ls : Nat} {xs : Nat → Int32} : am_tbl Ls xs 152 41 = some (o_aload 1 1) := (m_152 41).trans rfl
theorem t_152_42 {Ls : Nat} {xs : Nat → Int32} : am_tbl Ls xs 152 42 = some (o_get 2 11) := (m_152 42).trans rfl
theorem t_152_45 {Ls : Nat} {xs : Nat → Int32} : am_tbl Ls xs 152 45 = some (o_iload 4 2) := (m_152 45).trans rfl
theorem t_152_47 {Ls : Nat} {xs : Nat → Int32} : am_tbl Ls xs 152 47 = some (o_iald 1) := (m_152 47).trans rfl
theorem t_152_48 {Ls : Nat} {xs : Nat → Int32} : am_tbl Ls xs 152 48 = some (o_if (fun x => decide (x ≤ 0)) 60) := (m_152 48).trans rfl
theorem t_152_51 {Ls : Nat} {xs : Nat → Int32} : am_tbl Ls xs 152 51 = some (o_aload 0 1) := (m_152 51).trans rfl
theorem t_152_52 {Ls : Nat} {xs : Nat → Int32} : am_tbl Ls xs 152 52 = some (o_push (.int 4) 1) := (m_152 52).trans rfl
theorem t_152_53 {Ls : Nat} {xs : Nat → Int32} : am_tbl Ls xs 152 53 = some (o_aload 0 1) := (m_152 53).trans rfl
theorem t_152_54 {Ls : Nat} {xs : Nat → Int32} : am_tbl Ls xs 152 54 = some (o_get 3 3) := (m_152 54).trans rfl
theorem t_152_57 {Ls : Nat} {xs : Nat → Int32} : am_tbl Ls xs 152 57 = some (o_callv 159 2 3 3) := (m_152 57).trans rfl
theorem t_152_60 {Ls : Nat} {xs : Nat → Int32} : am_tbl Ls xs 152 60 = some (o_nrm [4] (o_iload 4 2)) := (m_152 60).trans rfl
theorem t_152_62 {Ls : Nat} {xs : Nat → Int32} : am_tbl Ls xs 152 62 = some (o_iret) := (m_152 62).trans rfl
theorem m_153 {Ls : Nat} {xs : Nat → Int32} (pc : Nat) : am_tbl Ls xs 153 pc = am_lk (op_X3_readNumber) pc := rfl
theorem t_153_0 {Ls : Nat} {xs : Nat → Int32} : am_tbl Ls xs 153 0 = some (o_aload 0 1) := (m_153 0).trans rfl
theorem t_153_1 {Ls : Nat} {xs : Nat → Int32} : am_tbl Ls xs 153 1 = some (o_callv 155 0 3 2) := (m_153 1).trans rfl
theorem t_153_4 {Ls : Nat} {xs : Nat → Int32} : am_tbl Ls xs 153 4 = some (o_aload 0 1) := (m_153 4).trans rfl
theorem t_153_5 {Ls : Nat} {xs : Nat → Int32} : am_tbl Ls xs 153 5 = some (o_get 3 1) := (m_153 5).trans rfl
theorem t_153_8 {Ls : Nat} {xs : Nat → Int32} : am_tbl Ls xs 153 8 = some (o_istore 3 1) := (m_153 8).trans rfl
theorem t_153_9 {Ls : Nat} {xs : Nat → Int32} : am_tbl Ls xs 153 9 = some (o_push (.int 0) 1) := (m_153 9).trans rfl
theorem t_153_10 {Ls : Nat} {xs : Nat → Int32} : am_tbl Ls xs 153 10 = some (o_istore 4 2) := (m_153 10).trans rfl
theorem t_153_12 {Ls : Nat} {xs : Nat → Int32} : am_tbl Ls xs 153 12 = some (o_push (.int 0) 1) := (m_153 12).trans rfl
theorem t_153_13 {Ls : Nat} {xs : Nat → Int32} : am_tbl Ls xs 153 13 = some (o_istore 5 2) := (m_153 13).trans rfl
theorem t_153_15 {Ls : Nat} {xs : Nat → Int32} : am_tbl Ls xs 153 15 = some (o_nrm [0, 1, 2, 3, 4, 5] (o_iload 5 2)) := (m_153 15).trans rfl
theorem t_153_17 {Ls : Nat} {xs : Nat → Int32} : am_tbl Ls xs 153 17 = some (o_push (.int 500) 3) := (m_153 17).trans rfl
theorem t_153_20 {Ls : Nat} {xs : Nat → Int32} : am_tbl Ls xs 153 20 = some (o_icmp (fun x y => decide (y ≤ x)) 80) := (m_153 20).trans rfl
theorem t_153_23 {Ls : Nat} {xs : Nat → Int32} : am_tbl Ls xs 153 23 = some (o_aload 0 1) := (m_153 23).trans rfl
theorem t_153_24 {Ls : Nat} {xs : Nat → Int32} : am_tbl Ls xs 153 24 = some (o_aload 0 1) := (m_153 24).trans rfl
theorem t_153_25 {Ls : Nat} {xs : Nat → Int32} : am_tbl Ls xs 153 25 = some (o_get 3 1) := (m_153 25).trans rfl
theorem t_153_28 {Ls : Nat} {xs : Nat → Int32} : am_tbl Ls xs 153 28 = some (o_callv 157 1 3 2) := (m_153 28).trans rfl
theorem t_153_31 {Ls : Nat} {xs : Nat → Int32} : am_tbl Ls xs 153 31 = some (o_if (fun x => decide (x = 0)) 80) := (m_153 31).trans rfl
theorem t_153_34 {Ls : Nat} {xs : Nat → Int32} : am_tbl Ls xs 153 34 = some (o_aload 0 1) := (m_153 34).trans rfl
theorem t_153_35 {Ls : Nat} {xs : Nat → Int32} : am_tbl Ls xs 153 35 = some (o_get 3 1) := (m_153 35).trans rfl
theorem t_153_38 {Ls : Nat} {xs : Nat → Int32} : am_tbl Ls xs 153 38 = some (o_iload 3 1) := (m_153 38).trans rfl
theorem t_153_39 {Ls : Nat} {xs : Nat → Int32} : am_tbl Ls xs 153 39 = some (o_ibin (fun x y => x - y)) := (m_153 39).trans rfl
theorem t_153_40 {Ls : Nat} {xs : Nat → Int32} : am_tbl Ls xs 153 40 = some (o_push (.int 3) 1) := (m_153 40).trans rfl
theorem t_153_41 {Ls : Nat} {xs : Nat → Int32} : am_tbl Ls xs 153 41 = some (o_icmp (fun x y => decide (y ≤ x)) 64) := (m_153 41).trans rfl
theorem t_153_44 {Ls : Nat} {xs : Nat → Int32} : am_tbl Ls xs 153 44 = some (o_push (.int 10) 2) := (m_153 44).trans rfl
theorem t_153_46 {Ls : Nat} {xs : Nat → Int32} : am_tbl Ls xs 153 46 = some (o_iload 4 2) := (m_153 46).trans rfl
theorem t_153_48 {Ls : Nat} {xs : Nat → Int32} : am_tbl Ls xs 153 48 = some (o_ibin (fun x y => x * y)) := (m_153 48).trans rfl
theorem t_153_49 {Ls : Nat} {xs : Nat → Int32} : am_tbl Ls xs 153 49 = some (o_aload 0 1) := (m_153 49).trans rfl
theorem t_153_50 {Ls : Nat} {xs : Nat → Int32} : am_tbl Ls xs 153 50 = some (o_get 3 0) := (m_153 50).trans rfl
theorem t_153_53 {Ls : Nat} {xs : Nat → Int32} : am_tbl Ls xs 153 53 = some (o_aload 0 1) := (m_153 53).trans rfl
theorem t_153_54 {Ls : Nat} {xs : Nat → Int32} : am_tbl Ls xs 153 54 = some (o_get 3 1) := (m_153 54).trans rfl
theorem t_153_57 {Ls : Nat} {xs : Nat → Int32} : am_tbl Ls xs 153 57 = some (o_iald 2) := (m_153 57).trans rfl
theorem t_153_58 {Ls : Nat} {xs : Nat → Int32} : am_tbl Ls xs 153 58 = some (o_ibin (fun x y => x + y)) := (m_153 58).trans rfl
theorem t_153_59 {Ls : Nat} {xs : Nat → Int32} : am_tbl Ls xs 153 59 = some (o_push (.int 48) 2) := (m_153 59).trans rfl
theorem t_153_61 {Ls : Nat} {xs : Nat → Int32} : am_tbl Ls xs 153 61 = some (o_ibin (fun x y => x - y)) := (m_153 61).trans rfl
theorem t_153_62 {Ls : Nat} {xs : Nat → Int32} : am_tbl Ls xs 153 62 = some (o_istore 4 2) := (m_153 62).trans rfl
theorem t_153_64 {Ls : Nat} {xs : Nat → Int32} : am_tbl Ls xs 153 64 = some (o_nrm [0, 1, 2, 3, 4, 5] (o_aload 0 1)) := (m_153 64).trans rfl
theorem t_153_65 {Ls : Nat} {xs : Nat → Int32} : am_tbl Ls xs 153 65 = some (o_dup) := (m_153 65).trans rfl
theorem t_153_66 {Ls : Nat} {xs : Nat → Int32} : am_tbl Ls xs 153 66 = some (o_get 3 1) := (m_153 66).trans rfl
theorem t_153_69 {Ls : Nat} {xs : Nat → Int32} : am_tbl Ls xs 153 69 = some (o_push (.int 1) 1) := (m_153 69).trans rfl
theorem t_153_70 {Ls : Nat} {xs : Nat → Int32} : am_tbl Ls xs 153 70 = some (o_ibin (fun x y => x + y)) := (m_153 70).trans rfl
theorem t_153_71 {Ls : Nat} {xs : Nat → Int32} : am_tbl Ls xs 153 71 = some (o_puti 3 1) := (m_153 71).trans rfl
theorem t_153_74 {Ls : Nat} {xs : Nat → Int32} : am_tbl Ls xs 153 74 = some (o_iinc 5 1) := (m_153 74).trans rfl
theorem t_153_77 {Ls : Nat} {xs : Nat → Int32} : am_tbl Ls xs 153 77 = some (o_goto 15) := (m_153 77).trans rfl
theorem t_153_80 {Ls : Nat} {xs : Nat → Int32} : am_tbl Ls xs 153 80 = some (o_nrm [0, 1, 2, 3, 4] (o_aload 0 1)) := (m_153 80).trans rfl
theorem t_153_81 {Ls : Nat} {xs : Nat → Int32} : am_tbl Ls xs 153 81 = some (o_iload 3 1) := (m_153 81).trans rfl
theorem t_153_82 {Ls : Nat} {xs : Nat → Int32} : am_tbl Ls xs 153 82 = some (o_puti 3 3) := (m_153 82).trans rfl
theorem t_153_85 {Ls : Nat} {xs : Nat → Int32} : am_tbl Ls xs 153 85 = some (o_aload 0 1) := (m_153 85).trans rfl
theorem t_153_86 {Ls : Nat} {xs : Nat → Int32} : am_tbl Ls xs 153 86 = some (o_get 3 1) := (m_153 86).trans rfl
theorem t_153_89 {Ls : Nat} {xs : Nat → Int32} : am_tbl Ls xs 153 89 = some (o_iload 3 1) := (m_153 89).trans rfl
theorem t_153_90 {Ls : Nat} {xs : Nat → Int32} : am_tbl Ls xs 153 90 = some (o_icmp (fun x y => decide (x ≠ y)) 102) := (m_153 90).trans rfl
theorem t_153_93 {Ls : Nat} {xs : Nat → Int32} : am_tbl Ls xs 153 93 = some (o_aload 0 1) := (m_153 93).trans rfl
theorem t_153_94 {Ls : Nat} {xs : Nat → Int32} : am_tbl Ls xs 153 94 = some (o_push (.int 1) 1) := (m_153 94).trans rfl
theorem t_153_95 {Ls : Nat} {xs : Nat → Int32} : am_tbl Ls xs 153 95 = some (o_iload 3 1) := (m_153 95).trans rfl
theorem t_153_96 {Ls : Nat} {xs : Nat → Int32} : am_tbl Ls xs 153 96 = some (o_callv 159 2 3 3) := (m_153 96).trans rfl
theorem t_153_99 {Ls : Nat} {xs : Nat → Int32} : am_tbl Ls xs 153 99 = some (o_goto 130) := (m_153 99).trans rfl
theorem t_153_102 {Ls : Nat} {xs : Nat → Int32} : am_tbl Ls xs 153 102 = some (o_aload 0 1) := (m_153 102).trans rfl
theorem t_153_103 {Ls : Nat} {xs : Nat → Int32} : am_tbl Ls xs 153 103 = some (o_get 3 1) := (m_153 103).trans rfl
theorem t_153_106 {Ls : Nat} {xs : Nat → Int32} : am_tbl Ls xs 153 106 = some (o_iload 3 1) := (m_153 106).trans rfl
theorem t_153_107 {Ls : Nat} {xs : Nat → Int32} : am_tbl Ls xs 153 107 = some (o_ibin (fun x y => x - y)) := (m_153 107).trans rfl
theorem t_153_108 {Ls : Nat} {xs : Nat → Int32} : am_tbl Ls xs 153 108 = some (o_push (.int 3) 1) := (m_153 108).trans rfl
theorem t_153_109 {Ls : Nat} {xs : Nat → Int32} : am_tbl Ls xs 153 109 = some (o_icmp (fun x y => decide (y < x)) 124) := (m_153 109).trans rfl
set_option maxRecDepth 20000 in
theorem t_153_112 {Ls : Nat} {xs : Nat → Int32} : am_tbl Ls xs 153 112 = some (o_iload 4 2) := (m_153 112).trans rfl
set_option maxRecDepth 20000 in
theorem t_153_114 {Ls : Nat} {xs : Nat → Int32} : am_tbl Ls xs 153 114 = some (o_iload 1 1) := (m_153 114).trans rfl
set_option maxRecDepth 20000 in
theorem t_153_115 {Ls : Nat} {xs : Nat → Int32} : am_tbl Ls xs 153 115 = some (o_icmp (fun x y => decide (x < y)) 124) := (m_153 115).trans rfl
set_option maxRecDepth 20000 in
theorem t_153_118 {Ls : Nat} {xs : Nat → Int32} : am_tbl Ls xs 153 118 = some (o_iload 4 2) := (m_153 118).trans rfl
set_option maxRecDepth 20000 in
theorem t_153_120 {Ls : Nat} {xs : Nat → Int32} : am_tbl Ls xs 153 120 = some (o_iload 2 1) := (m_153 120).trans rfl
set_option maxRecDepth 20000 in
theorem t_153_121 {Ls : Nat} {xs : Nat → Int32} : am_tbl Ls xs 153 121 = some (o_icmp (fun x y => decide (x ≤ y)) 130) := (m_153 121).trans rfl
set_option maxRecDepth 20000 in
theorem t_153_124 {Ls : Nat} {xs : Nat → Int32} : am_tbl Ls xs 153 124 = some (o_nrm [0, 1, 3, 4] (o_aload 0 1)) := (m_153 124).trans rfl
set_option maxRecDepth 20000 in
theorem t_153_125 {Ls : Nat} {xs : Nat → Int32} : am_tbl Ls xs 153 125 = some (o_push (.int 2) 1) := (m_153 125).trans rfl
set_option maxRecDepth 20000 in
theorem t_153_126 {Ls : Nat} {xs : Nat → Int32} : am_tbl Ls xs 153 126 = some (o_iload 3 1) := (m_153 126).trans rfl
set_option maxRecDepth 20000 in
theorem t_153_127 {Ls : Nat} {xs : Nat → Int32} : am_tbl Ls xs 153 127 = some (o_callv 159 2 3 3) := (m_153 127).trans rfl
set_option maxRecDepth 20000 in
theorem t_153_130 {Ls : Nat} {xs : Nat → Int32} : am_tbl Ls xs 153 130 = some (o_nrm [0, 1, 4] (o_aload 0 1)) := (m_153 130).trans rfl
set_option maxRecDepth 20000 in
theorem t_153_131 {Ls : Nat} {xs : Nat → Int32} : am_tbl Ls xs 153 131 = some (o_get 3 2) := (m_153 131).trans rfl
set_option maxRecDepth 20000 in
theorem t_153_134 {Ls : Nat} {xs : Nat → Int32} : am_tbl Ls xs 153 134 = some (o_if (fun x => decide (x ≠ 0)) 142) := (m_153 134).trans rfl
set_option maxRecDepth 20000 in
theorem t_153_137 {Ls : Nat} {xs : Nat → Int32} : am_tbl Ls xs 153 137 = some (o_iload 4 2) := (m_153 137).trans rfl
set_option maxRecDepth 20000 in
theorem t_153_139 {Ls : Nat} {xs : Nat → Int32} : am_tbl Ls xs 153 139 = some (o_goto 143) := (m_153 139).trans rfl
set_option maxRecDepth 20000 in
theorem t_153_142 {Ls : Nat} {xs : Nat → Int32} : am_tbl Ls xs 153 142 = some (o_iload 1 1) := (m_153 142).trans rfl
set_option maxRecDepth 20000 in
theorem t_153_143 {Ls : Nat} {xs : Nat → Int32} : am_tbl Ls xs 153 143 = some (o_nrm [] (o_iret)) := (m_153 143).trans rfl
theorem m_154 {Ls : Nat} {xs : Nat → Int32} (pc : Nat) : am_tbl Ls xs 154 pc = am_lk (op_X3_readEnd) pc := rfl
theorem t_154_0 {Ls : Nat} {xs : Nat → Int32} : am_tbl Ls xs 154 0 = some (o_aload 0 1) := (m_154 0).trans rfl
theorem t_154_1 {Ls : Nat} {xs : Nat → Int32} : am_tbl Ls xs 154 1 = some (o_callv 155 0 3 2) := (m_154 1).trans rfl
theorem t_154_4 {Ls : Nat} {xs : Nat → Int32} : am_tbl Ls xs 154 4 = some (o_aload 0 1) := (m_154 4).trans rfl
theorem t_154_5 {Ls : Nat} {xs : Nat → Int32} : am_tbl Ls xs 154 5 = some (o_get 3 1) := (m_154 5).trans rfl
theorem t_154_8 {Ls : Nat} {xs : Nat → Int32} : am_tbl Ls xs 154 8 = some (o_aload 0 1) := (m_154 8).trans rfl
theorem t_154_9 {Ls : Nat} {xs : Nat → Int32} : am_tbl Ls xs 154 9 = some (o_get 3 6) := (m_154 9).trans rfl
theorem t_154_12 {Ls : Nat} {xs : Nat → Int32} : am_tbl Ls xs 154 12 = some (o_icmp (fun x y => decide (y ≤ x)) 42) := (m_154 12).trans rfl
theorem t_154_15 {Ls : Nat} {xs : Nat → Int32} : am_tbl Ls xs 154 15 = some (o_aload 0 1) := (m_154 15).trans rfl
theorem t_154_16 {Ls : Nat} {xs : Nat → Int32} : am_tbl Ls xs 154 16 = some (o_get 3 0) := (m_154 16).trans rfl
theorem t_154_19 {Ls : Nat} {xs : Nat → Int32} : am_tbl Ls xs 154 19 = some (o_aload 0 1) := (m_154 19).trans rfl
theorem t_154_20 {Ls : Nat} {xs : Nat → Int32} : am_tbl Ls xs 154 20 = some (o_get 3 1) := (m_154 20).trans rfl
theorem t_154_23 {Ls : Nat} {xs : Nat → Int32} : am_tbl Ls xs 154 23 = some (o_iald 2) := (m_154 23).trans rfl
theorem t_154_24 {Ls : Nat} {xs : Nat → Int32} : am_tbl Ls xs 154 24 = some (o_push (.int 59) 2) := (m_154 24).trans rfl
theorem t_154_26 {Ls : Nat} {xs : Nat → Int32} : am_tbl Ls xs 154 26 = some (o_icmp (fun x y => decide (x ≠ y)) 42) := (m_154 26).trans rfl
theorem t_154_29 {Ls : Nat} {xs : Nat → Int32} : am_tbl Ls xs 154 29 = some (o_aload 0 1) := (m_154 29).trans rfl
theorem t_154_30 {Ls : Nat} {xs : Nat → Int32} : am_tbl Ls xs 154 30 = some (o_dup) := (m_154 30).trans rfl
theorem t_154_31 {Ls : Nat} {xs : Nat → Int32} : am_tbl Ls xs 154 31 = some (o_get 3 1) := (m_154 31).trans rfl
theorem t_154_34 {Ls : Nat} {xs : Nat → Int32} : am_tbl Ls xs 154 34 = some (o_push (.int 1) 1) := (m_154 34).trans rfl
theorem t_154_35 {Ls : Nat} {xs : Nat → Int32} : am_tbl Ls xs 154 35 = some (o_ibin (fun x y => x + y)) := (m_154 35).trans rfl
theorem t_154_36 {Ls : Nat} {xs : Nat → Int32} : am_tbl Ls xs 154 36 = some (o_puti 3 1) := (m_154 36).trans rfl
theorem t_154_39 {Ls : Nat} {xs : Nat → Int32} : am_tbl Ls xs 154 39 = some (o_goto 51) := (m_154 39).trans rfl
theorem t_154_42 {Ls : Nat} {xs : Nat → Int32} : am_tbl Ls xs 154 42 = some (o_nrm [0] (o_aload 0 1)) := (m_154 42).trans rfl
theorem t_154_43 {Ls : Nat} {xs : Nat → Int32} : am_tbl Ls xs 154 43 = some (o_push (.int 1) 1) := (m_154 43).trans rfl
theorem t_154_44 {Ls : Nat} {xs : Nat → Int32} : am_tbl Ls xs 154 44 = some (o_aload 0 1) := (m_154 44).trans rfl
theorem t_154_45 {Ls : Nat} {xs : Nat → Int32} : am_tbl Ls xs 154 45 = some (o_get 3 1) := (m_154 45).trans rfl
theorem t_154_48 {Ls : Nat} {xs : Nat → Int32} : am_tbl Ls xs 154 48 = some (o_callv 159 2 3 3) := (m_154 48).trans rfl
theorem t_154_51 {Ls : Nat} {xs : Nat → Int32} : am_tbl Ls xs 154 51 = some (o_nrm [] (o_vret)) := (m_154 51).trans rfl
theorem m_155 {Ls : Nat} {xs : Nat → Int32} (pc : Nat) : am_tbl Ls xs 155 pc = am_lk (op_X3_skipBlanks) pc := rfl
theorem t_155_0 {Ls : Nat} {xs : Nat → Int32} : am_tbl Ls xs 155 0 = some (o_push (.int 0) 1) := (m_155 0).trans rfl
theorem t_155_1 {Ls : Nat} {xs : Nat → Int32} : am_tbl Ls xs 155 1 = some (o_istore 1 1) := (m_155 1).trans rfl
theorem t_155_2 {Ls : Nat} {xs : Nat → Int32} : am_tbl Ls xs 155 2 = some (o_nrm [0, 1] (o_iload 1 1)) := (m_155 2).trans rfl
theorem t_155_3 {Ls : Nat} {xs : Nat → Int32} : am_tbl Ls xs 155 3 = some (o_push (.int 500) 3) := (m_155 3).trans rfl
theorem t_155_6 {Ls : Nat} {xs : Nat → Int32} : am_tbl Ls xs 155 6 = some (o_icmp (fun x y => decide (y ≤ x)) 50) := (m_155 6).trans rfl
theorem t_155_9 {Ls : Nat} {xs : Nat → Int32} : am_tbl Ls xs 155 9 = some (o_aload 0 1) := (m_155 9).trans rfl
theorem t_155_10 {Ls : Nat} {xs : Nat → Int32} : am_tbl Ls xs 155 10 = some (o_get 3 1) := (m_155 10).trans rfl
theorem t_155_13 {Ls : Nat} {xs : Nat → Int32} : am_tbl Ls xs 155 13 = some (o_aload 0 1) := (m_155 13).trans rfl
theorem t_155_14 {Ls : Nat} {xs : Nat → Int32} : am_tbl Ls xs 155 14 = some (o_get 3 6) := (m_155 14).trans rfl
theorem t_155_17 {Ls : Nat} {xs : Nat → Int32} : am_tbl Ls xs 155 17 = some (o_icmp (fun x y => decide (y ≤ x)) 50) := (m_155 17).trans rfl
theorem t_155_20 {Ls : Nat} {xs : Nat → Int32} : am_tbl Ls xs 155 20 = some (o_aload 0 1) := (m_155 20).trans rfl
theorem t_155_21 {Ls : Nat} {xs : Nat → Int32} : am_tbl Ls xs 155 21 = some (o_get 3 0) := (m_155 21).trans rfl
theorem t_155_24 {Ls : Nat} {xs : Nat → Int32} : am_tbl Ls xs 155 24 = some (o_aload 0 1) := (m_155 24).trans rfl
theorem t_155_25 {Ls : Nat} {xs : Nat → Int32} : am_tbl Ls xs 155 25 = some (o_get 3 1) := (m_155 25).trans rfl
theorem t_155_28 {Ls : Nat} {xs : Nat → Int32} : am_tbl Ls xs 155 28 = some (o_iald 2) := (m_155 28).trans rfl
theorem t_155_29 {Ls : Nat} {xs : Nat → Int32} : am_tbl Ls xs 155 29 = some (o_push (.int 32) 2) := (m_155 29).trans rfl
theorem t_155_31 {Ls : Nat} {xs : Nat → Int32} : am_tbl Ls xs 155 31 = some (o_icmp (fun x y => decide (x ≠ y)) 50) := (m_155 31).trans rfl
theorem t_155_34 {Ls : Nat} {xs : Nat → Int32} : am_tbl Ls xs 155 34 = some (o_aload 0 1) := (m_155 34).trans rfl
theorem t_155_35 {Ls : Nat} {xs : Nat → Int32} : am_tbl Ls xs 155 35 = some (o_dup) := (m_155 35).trans rfl
theorem t_155_36 {Ls : Nat} {xs : Nat → Int32} : am_tbl Ls xs 155 36 = some (o_get 3 1) := (m_155 36).trans rfl
theorem t_155_39 {Ls : Nat} {xs : Nat → Int32} : am_tbl Ls xs 155 39 = some (o_push (.int 1) 1) := (m_155 39).trans rfl
theorem t_155_40 {Ls : Nat} {xs : Nat → Int32} : am_tbl Ls xs 155 40 = some (o_ibin (fun x y => x + y)) := (m_155 40).trans rfl
theorem t_155_41 {Ls : Nat} {xs : Nat → Int32} : am_tbl Ls xs 155 41 = some (o_puti 3 1) := (m_155 41).trans rfl
theorem t_155_44 {Ls : Nat} {xs : Nat → Int32} : am_tbl Ls xs 155 44 = some (o_iinc 1 1) := (m_155 44).trans rfl
theorem t_155_47 {Ls : Nat} {xs : Nat → Int32} : am_tbl Ls xs 155 47 = some (o_goto 2) := (m_155 47).trans rfl
theorem t_155_50 {Ls : Nat} {xs : Nat → Int32} : am_tbl Ls xs 155 50 = some (o_nrm [] (o_vret)) := (m_155 50).trans rfl
theorem m_156 {Ls : Nat} {xs : Nat → Int32} (pc : Nat) : am_tbl Ls xs 156 pc = am_lk (op_X3_skipLetters) pc := rfl
theorem t_156_0 {Ls : Nat} {xs : Nat → Int32} : am_tbl Ls xs 156 0 = some (o_push (.int 0) 1) := (m_156 0).trans rfl
theorem t_156_1 {Ls : Nat} {xs : Nat → Int32} : am_tbl Ls xs 156 1 = some (o_istore 1 1) := (m_156 1).trans rfl
theorem t_156_2 {Ls : Nat} {xs : Nat → Int32} : am_tbl Ls xs 156 2 = some (o_nrm [0, 1] (o_iload 1 1)) := (m_156 2).trans rfl
theorem t_156_3 {Ls : Nat} {xs : Nat → Int32} : am_tbl Ls xs 156 3 = some (o_push (.int 500) 3) := (m_156 3).trans rfl
theorem t_156_6 {Ls : Nat} {xs : Nat → Int32} : am_tbl Ls xs 156 6 = some (o_icmp (fun x y => decide (y ≤ x)) 64) := (m_156 6).trans rfl
theorem t_156_9 {Ls : Nat} {xs : Nat → Int32} : am_tbl Ls xs 156 9 = some (o_aload 0 1) := (m_156 9).trans rfl
theorem t_156_10 {Ls : Nat} {xs : Nat → Int32} : am_tbl Ls xs 156 10 = some (o_get 3 1) := (m_156 10).trans rfl
theorem t_156_13 {Ls : Nat} {xs : Nat → Int32} : am_tbl Ls xs 156 13 = some (o_aload 0 1) := (m_156 13).trans rfl
theorem t_156_14 {Ls : Nat} {xs : Nat → Int32} : am_tbl Ls xs 156 14 = some (o_get 3 6) := (m_156 14).trans rfl
theorem t_156_17 {Ls : Nat} {xs : Nat → Int32} : am_tbl Ls xs 156 17 = some (o_icmp (fun x y => decide (y ≤ x)) 64) := (m_156 17).trans rfl
theorem t_156_20 {Ls : Nat} {xs : Nat → Int32} : am_tbl Ls xs 156 20 = some (o_aload 0 1) := (m_156 20).trans rfl
theorem t_156_21 {Ls : Nat} {xs : Nat → Int32} : am_tbl Ls xs 156 21 = some (o_get 3 0) := (m_156 21).trans rfl
theorem t_156_24 {Ls : Nat} {xs : Nat → Int32} : am_tbl Ls xs 156 24 = some (o_aload 0 1) := (m_156 24).trans rfl
theorem t_156_25 {Ls : Nat} {xs : Nat → Int32} : am_tbl Ls xs 156 25 = some (o_get 3 1) := (m_156 25).trans rfl
theorem t_156_28 {Ls : Nat} {xs : Nat → Int32} : am_tbl Ls xs 156 28 = some (o_iald 2) := (m_156 28).trans rfl
theorem t_156_29 {Ls : Nat} {xs : Nat → Int32} : am_tbl Ls xs 156 29 = some (o_push (.int 97) 2) := (m_156 29).trans rfl
theorem t_156_31 {Ls : Nat} {xs : Nat → Int32} : am_tbl Ls xs 156 31 = some (o_icmp (fun x y => decide (x < y)) 64) := (m_156 31).trans rfl
theorem t_156_34 {Ls : Nat} {xs : Nat → Int32} : am_tbl Ls xs 156 34 = some (o_aload 0 1) := (m_156 34).trans rfl
theorem t_156_35 {Ls : Nat} {xs : Nat → Int32} : am_tbl Ls xs 156 35 = some (o_get 3 0) := (m_156 35).trans rfl
theorem t_156_38 {Ls : Nat} {xs : Nat → Int32} : am_tbl Ls xs 156 38 = some (o_aload 0 1) := (m_156 38).trans rfl
theorem t_156_39 {Ls : Nat} {xs : Nat → Int32} : am_tbl Ls xs 156 39 = some (o_get 3 1) := (m_156 39).trans rfl
theorem t_156_42 {Ls : Nat} {xs : Nat → Int32} : am_tbl Ls xs 156 42 = some (o_iald 2) := (m_156 42).trans rfl
theorem t_156_43 {Ls : Nat} {xs : Nat → Int32} : am_tbl Ls xs 156 43 = some (o_push (.int 122) 2) := (m_156 43).trans rfl
theorem t_156_45 {Ls : Nat} {xs : Nat → Int32} : am_tbl Ls xs 156 45 = some (o_icmp (fun x y => decide (y < x)) 64) := (m_156 45).trans rfl
theorem t_156_48 {Ls : Nat} {xs : Nat → Int32} : am_tbl Ls xs 156 48 = some (o_aload 0 1) := (m_156 48).trans rfl
theorem t_156_49 {Ls : Nat} {xs : Nat → Int32} : am_tbl Ls xs 156 49 = some (o_dup) := (m_156 49).trans rfl
theorem t_156_50 {Ls : Nat} {xs : Nat → Int32} : am_tbl Ls xs 156 50 = some (o_get 3 1) := (m_156 50).trans rfl
theorem t_156_53 {Ls : Nat} {xs : Nat → Int32} : am_tbl Ls xs 156 53 = some (o_push (.int 1) 1) := (m_156 53).trans rfl
theorem t_156_54 {Ls : Nat} {xs : Nat → Int32} : am_tbl Ls xs 156 54 = some (o_ibin (fun x y => x + y)) := (m_156 54).trans rfl
theorem t_156_55 {Ls : Nat} {xs : Nat → Int32} : am_tbl Ls xs 156 55 = some (o_puti 3 1) := (m_156 55).trans rfl
theorem t_156_58 {Ls : Nat} {xs : Nat → Int32} : am_tbl Ls xs 156 58 = some (o_iinc 1 1) := (m_156 58).trans rfl
theorem t_156_61 {Ls : Nat} {xs : Nat → Int32} : am_tbl Ls xs 156 61 = some (o_goto 2) := (m_156 61).trans rfl
theorem t_156_64 {Ls : Nat} {xs : Nat → Int32} : am_tbl Ls xs 156 64 = some (o_nrm [] (o_vret)) := (m_156 64).trans rfl
theorem m_157 {Ls : Nat} {xs : Nat → Int32} (pc : Nat) : am_tbl Ls xs 157 pc = am_lk (op_X3_isFigure) pc := rfl
theorem t_157_0 {Ls : Nat} {xs : Nat → Int32} : am_tbl Ls xs 157 0 = some (o_iload 1 1) := (m_157 0).trans rfl
theorem t_157_1 {Ls : Nat} {xs : Nat → Int32} : am_tbl Ls xs 157 1 = some (o_if (fun x => decide (x < 0)) 38) := (m_157 1).trans rfl
theorem t_157_4 {Ls : Nat} {xs : Nat → Int32} : am_tbl Ls xs 157 4 = some (o_iload 1 1) := (m_157 4).trans rfl
theorem t_157_5 {Ls : Nat} {xs : Nat → Int32} : am_tbl Ls xs 157 5 = some (o_aload 0 1) := (m_157 5).trans rfl
theorem t_157_6 {Ls : Nat} {xs : Nat → Int32} : am_tbl Ls xs 157 6 = some (o_get 3 6) := (m_157 6).trans rfl
theorem t_157_9 {Ls : Nat} {xs : Nat → Int32} : am_tbl Ls xs 157 9 = some (o_icmp (fun x y => decide (y ≤ x)) 38) := (m_157 9).trans rfl
theorem t_157_12 {Ls : Nat} {xs : Nat → Int32} : am_tbl Ls xs 157 12 = some (o_aload 0 1) := (m_157 12).trans rfl
theorem t_157_13 {Ls : Nat} {xs : Nat → Int32} : am_tbl Ls xs 157 13 = some (o_get 3 0) := (m_157 13).trans rfl
theorem t_157_16 {Ls : Nat} {xs : Nat → Int32} : am_tbl Ls xs 157 16 = some (o_iload 1 1) := (m_157 16).trans rfl
theorem t_157_17 {Ls : Nat} {xs : Nat → Int32} : am_tbl Ls xs 157 17 = some (o_iald 2) := (m_157 17).trans rfl
theorem t_157_18 {Ls : Nat} {xs : Nat → Int32} : am_tbl Ls xs 157 18 = some (o_push (.int 48) 2) := (m_157 18).trans rfl
theorem t_157_20 {Ls : Nat} {xs : Nat → Int32} : am_tbl Ls xs 157 20 = some (o_icmp (fun x y => decide (x < y)) 38) := (m_157 20).trans rfl
theorem t_157_23 {Ls : Nat} {xs : Nat → Int32} : am_tbl Ls xs 157 23 = some (o_aload 0 1) := (m_157 23).trans rfl
theorem t_157_24 {Ls : Nat} {xs : Nat → Int32} : am_tbl Ls xs 157 24 = some (o_get 3 0) := (m_157 24).trans rfl
theorem t_157_27 {Ls : Nat} {xs : Nat → Int32} : am_tbl Ls xs 157 27 = some (o_iload 1 1) := (m_157 27).trans rfl
theorem t_157_28 {Ls : Nat} {xs : Nat → Int32} : am_tbl Ls xs 157 28 = some (o_iald 2) := (m_157 28).trans rfl
theorem t_157_29 {Ls : Nat} {xs : Nat → Int32} : am_tbl Ls xs 157 29 = some (o_push (.int 57) 2) := (m_157 29).trans rfl
theorem t_157_31 {Ls : Nat} {xs : Nat → Int32} : am_tbl Ls xs 157 31 = some (o_icmp (fun x y => decide (y < x)) 38) := (m_157 31).trans rfl
theorem t_157_34 {Ls : Nat} {xs : Nat → Int32} : am_tbl Ls xs 157 34 = some (o_push (.int 1) 1) := (m_157 34).trans rfl
theorem t_157_35 {Ls : Nat} {xs : Nat → Int32} : am_tbl Ls xs 157 35 = some (o_goto 39) := (m_157 35).trans rfl
theorem t_157_38 {Ls : Nat} {xs : Nat → Int32} : am_tbl Ls xs 157 38 = some (o_nrm [] (o_push (.int 0) 1)) := (m_157 38).trans rfl
theorem t_157_39 {Ls : Nat} {xs : Nat → Int32} : am_tbl Ls xs 157 39 = some (o_nrm [] (o_zret)) := (m_157 39).trans rfl
theorem m_158 {Ls : Nat} {xs : Nat → Int32} (pc : Nat) : am_tbl Ls xs 158 pc = am_lk (op_X3_isWord) pc := rfl
theorem t_158_0 {Ls : Nat} {xs : Nat → Int32} : am_tbl Ls xs 158 0 = some (o_iload 1 1) := (m_158 0).trans rfl
theorem t_158_1 {Ls : Nat} {xs : Nat → Int32} : am_tbl Ls xs 158 1 = some (o_if (fun x => decide (x < 0)) 17) := (m_158 1).trans rfl
theorem t_158_4 {Ls : Nat} {xs : Nat → Int32} : am_tbl Ls xs 158 4 = some (o_aload 0 1) := (m_158 4).trans rfl
theorem t_158_5 {Ls : Nat} {xs : Nat → Int32} : am_tbl Ls xs 158 5 = some (o_get 3 1) := (m_158 5).trans rfl
theorem t_158_8 {Ls : Nat} {xs : Nat → Int32} : am_tbl Ls xs 158 8 = some (o_iload 1 1) := (m_158 8).trans rfl
theorem t_158_9 {Ls : Nat} {xs : Nat → Int32} : am_tbl Ls xs 158 9 = some (o_ibin (fun x y => x - y)) := (m_158 9).trans rfl
theorem t_158_10 {Ls : Nat} {xs : Nat → Int32} : am_tbl Ls xs 158 10 = some (o_aload 2 1) := (m_158 10).trans rfl
theorem t_158_11 {Ls : Nat} {xs : Nat → Int32} : am_tbl Ls xs 158 11 = some (o_callx 194 0 1) := (m_158 11).trans rfl
theorem t_158_14 {Ls : Nat} {xs : Nat → Int32} : am_tbl Ls xs 158 14 = some (o_icmp (fun x y => decide (x = y)) 19) := (m_158 14).trans rfl
theorem t_158_17 {Ls : Nat} {xs : Nat → Int32} : am_tbl Ls xs 158 17 = some (o_nrm [] (o_push (.int 0) 1)) := (m_158 17).trans rfl
theorem t_158_18 {Ls : Nat} {xs : Nat → Int32} : am_tbl Ls xs 158 18 = some (o_zret) := (m_158 18).trans rfl
theorem t_158_19 {Ls : Nat} {xs : Nat → Int32} : am_tbl Ls xs 158 19 = some (o_push (.int 0) 1) := (m_158 19).trans rfl
theorem t_158_20 {Ls : Nat} {xs : Nat → Int32} : am_tbl Ls xs 158 20 = some (o_istore 3 1) := (m_158 20).trans rfl
theorem t_158_21 {Ls : Nat} {xs : Nat → Int32} : am_tbl Ls xs 158 21 = some (o_nrm [0, 1, 2, 3] (o_iload 3 1)) := (m_158 21).trans rfl
theorem t_158_22 {Ls : Nat} {xs : Nat → Int32} : am_tbl Ls xs 158 22 = some (o_aload 2 1) := (m_158 22).trans rfl
theorem t_158_23 {Ls : Nat} {xs : Nat → Int32} : am_tbl Ls xs 158 23 = some (o_callx 194 0 1) := (m_158 23).trans rfl
theorem t_158_26 {Ls : Nat} {xs : Nat → Int32} : am_tbl Ls xs 158 26 = some (o_icmp (fun x y => decide (y ≤ x)) 63) := (m_158 26).trans rfl
theorem t_158_29 {Ls : Nat} {xs : Nat → Int32} : am_tbl Ls xs 158 29 = some (o_iload 1 1) := (m_158 29).trans rfl
theorem t_158_30 {Ls : Nat} {xs : Nat → Int32} : am_tbl Ls xs 158 30 = some (o_iload 3 1) := (m_158 30).trans rfl
theorem t_158_31 {Ls : Nat} {xs : Nat → Int32} : am_tbl Ls xs 158 31 = some (o_ibin (fun x y => x + y)) := (m_158 31).trans rfl
theorem t_158_32 {Ls : Nat} {xs : Nat → Int32} : am_tbl Ls xs 158 32 = some (o_aload 0 1) := (m_158 32).trans rfl
theorem t_158_33 {Ls : Nat} {xs : Nat → Int32} : am_tbl Ls xs 158 33 = some (o_get 3 6) := (m_158 33).trans rfl
theorem t_158_36 {Ls : Nat} {xs : Nat → Int32} : am_tbl Ls xs 158 36 = some (o_icmp (fun x y => decide (y ≤ x)) 63) := (m_158 36).trans rfl
theorem t_158_39 {Ls : Nat} {xs : Nat → Int32} : am_tbl Ls xs 158 39 = some (o_aload 0 1) := (m_158 39).trans rfl
theorem t_158_40 {Ls : Nat} {xs : Nat → Int32} : am_tbl Ls xs 158 40 = some (o_get 3 0) := (m_158 40).trans rfl
theorem t_158_43 {Ls : Nat} {xs : Nat → Int32} : am_tbl Ls xs 158 43 = some (o_iload 1 1) := (m_158 43).trans rfl
theorem t_158_44 {Ls : Nat} {xs : Nat → Int32} : am_tbl Ls xs 158 44 = some (o_iload 3 1) := (m_158 44).trans rfl
theorem t_158_45 {Ls : Nat} {xs : Nat → Int32} : am_tbl Ls xs 158 45 = some (o_ibin (fun x y => x + y)) := (m_158 45).trans rfl
theorem t_158_46 {Ls : Nat} {xs : Nat → Int32} : am_tbl Ls xs 158 46 = some (o_iald 2) := (m_158 46).trans rfl
theorem t_158_47 {Ls : Nat} {xs : Nat → Int32} : am_tbl Ls xs 158 47 = some (o_aload 2 1) := (m_158 47).trans rfl
theorem t_158_48 {Ls : Nat} {xs : Nat → Int32} : am_tbl Ls xs 158 48 = some (o_iload 3 1) := (m_158 48).trans rfl
theorem t_158_49 {Ls : Nat} {xs : Nat → Int32} : am_tbl Ls xs 158 49 = some (o_callx 195 1 2) := (m_158 49).trans rfl
theorem t_158_52 {Ls : Nat} {xs : Nat → Int32} : am_tbl Ls xs 158 52 = some (o_icmp (fun x y => decide (x = y)) 57) := (m_158 52).trans rfl
theorem t_158_55 {Ls : Nat} {xs : Nat → Int32} : am_tbl Ls xs 158 55 = some (o_push (.int 0) 1) := (m_158 55).trans rfl
theorem t_158_56 {Ls : Nat} {xs : Nat → Int32} : am_tbl Ls xs 158 56 = some (o_zret) := (m_158 56).trans rfl
theorem t_158_57 {Ls : Nat} {xs : Nat → Int32} : am_tbl Ls xs 158 57 = some (o_iinc 3 1) := (m_158 57).trans rfl
theorem t_158_60 {Ls : Nat} {xs : Nat → Int32} : am_tbl Ls xs 158 60 = some (o_goto 21) := (m_158 60).trans rfl
theorem t_158_63 {Ls : Nat} {xs : Nat → Int32} : am_tbl Ls xs 158 63 = some (o_nrm [] (o_push (.int 1) 1)) := (m_158 63).trans rfl
theorem t_158_64 {Ls : Nat} {xs : Nat → Int32} : am_tbl Ls xs 158 64 = some (o_zret) := (m_158 64).trans rfl
theorem m_159 {Ls : Nat} {xs : Nat → Int32} (pc : Nat) : am_tbl Ls xs 159 pc = am_lk (op_X3_fail) pc := rfl
theorem t_159_0 {Ls : Nat} {xs : Nat → Int32} : am_tbl Ls xs 159 0 = some (o_aload 0 1) := (m_159 0).trans rfl
theorem t_159_1 {Ls : Nat} {xs : Nat → Int32} : am_tbl Ls xs 159 1 = some (o_get 3 2) := (m_159 1).trans rfl
theorem t_159_4 {Ls : Nat} {xs : Nat → Int32} : am_tbl Ls xs 159 4 = some (o_if (fun x => decide (x ≠ 0)) 17) := (m_159 4).trans rfl
theorem t_159_7 {Ls : Nat} {xs : Nat → Int32} : am_tbl Ls xs 159 7 = some (o_aload 0 1) := (m_159 7).trans rfl
theorem t_159_8 {Ls : Nat} {xs : Nat → Int32} : am_tbl Ls xs 159 8 = some (o_iload 1 1) := (m_159 8).trans rfl
theorem t_159_9 {Ls : Nat} {xs : Nat → Int32} : am_tbl Ls xs 159 9 = some (o_puti 3 2) := (m_159 9).trans rfl
theorem t_159_12 {Ls : Nat} {xs : Nat → Int32} : am_tbl Ls xs 159 12 = some (o_aload 0 1) := (m_159 12).trans rfl
theorem t_159_13 {Ls : Nat} {xs : Nat → Int32} : am_tbl Ls xs 159 13 = some (o_iload 2 1) := (m_159 13).trans rfl
theorem t_159_14 {Ls : Nat} {xs : Nat → Int32} : am_tbl Ls xs 159 14 = some (o_puti 3 7) := (m_159 14).trans rfl
theorem t_159_17 {Ls : Nat} {xs : Nat → Int32} : am_tbl Ls xs 159 17 = some (o_nrm [] (o_vret)) := (m_159 17).trans rfl
