/-! THE TABLES BY PLACE -/
theorem m_167 {Ls : Nat} {xs : Nat → Int32} (pc : Nat) : am_tbl Ls xs 167 pc = am_lk (op_X5_darken) pc := rfl
theorem t_167_0 {Ls : Nat} {xs : Nat → Int32} : am_tbl Ls xs 167 0 = some (o_push (.int 0) 1) := (m_167 0).trans rfl
theorem t_167_1 {Ls : Nat} {xs : Nat → Int32} : am_tbl Ls xs 167 1 = some (o_istore 1 1) := (m_167 1).trans rfl
theorem t_167_2 {Ls : Nat} {xs : Nat → Int32} : am_tbl Ls xs 167 2 = some (o_nrm [0, 1] (o_iload 1 1)) := (m_167 2).trans rfl
theorem t_167_3 {Ls : Nat} {xs : Nat → Int32} : am_tbl Ls xs 167 3 = some (o_aload 0 1) := (m_167 3).trans rfl
theorem t_167_4 {Ls : Nat} {xs : Nat → Int32} : am_tbl Ls xs 167 4 = some (o_get 5 0) := (m_167 4).trans rfl
theorem t_167_7 {Ls : Nat} {xs : Nat → Int32} : am_tbl Ls xs 167 7 = some (o_get 2 3) := (m_167 7).trans rfl
theorem t_167_10 {Ls : Nat} {xs : Nat → Int32} : am_tbl Ls xs 167 10 = some (o_icmp (fun x y => decide (y ≤ x)) 81) := (m_167 10).trans rfl
theorem t_167_13 {Ls : Nat} {xs : Nat → Int32} : am_tbl Ls xs 167 13 = some (o_aload 0 1) := (m_167 13).trans rfl
theorem t_167_14 {Ls : Nat} {xs : Nat → Int32} : am_tbl Ls xs 167 14 = some (o_get 5 2) := (m_167 14).trans rfl
theorem t_167_17 {Ls : Nat} {xs : Nat → Int32} : am_tbl Ls xs 167 17 = some (o_iload 1 1) := (m_167 17).trans rfl
theorem t_167_18 {Ls : Nat} {xs : Nat → Int32} : am_tbl Ls xs 167 18 = some (o_push (.long 0) 1) := (m_167 18).trans rfl
theorem t_167_19 {Ls : Nat} {xs : Nat → Int32} : am_tbl Ls xs 167 19 = some (o_last) := (m_167 19).trans rfl
theorem t_167_20 {Ls : Nat} {xs : Nat → Int32} : am_tbl Ls xs 167 20 = some (o_push (.int 0) 1) := (m_167 20).trans rfl
theorem t_167_21 {Ls : Nat} {xs : Nat → Int32} : am_tbl Ls xs 167 21 = some (o_istore 2 1) := (m_167 21).trans rfl
theorem t_167_22 {Ls : Nat} {xs : Nat → Int32} : am_tbl Ls xs 167 22 = some (o_nrm [0, 1, 2] (o_iload 2 1)) := (m_167 22).trans rfl
theorem t_167_23 {Ls : Nat} {xs : Nat → Int32} : am_tbl Ls xs 167 23 = some (o_aload 0 1) := (m_167 23).trans rfl
theorem t_167_24 {Ls : Nat} {xs : Nat → Int32} : am_tbl Ls xs 167 24 = some (o_get 5 0) := (m_167 24).trans rfl
theorem t_167_27 {Ls : Nat} {xs : Nat → Int32} : am_tbl Ls xs 167 27 = some (o_get 2 2) := (m_167 27).trans rfl
theorem t_167_30 {Ls : Nat} {xs : Nat → Int32} : am_tbl Ls xs 167 30 = some (o_icmp (fun x y => decide (y ≤ x)) 75) := (m_167 30).trans rfl
theorem t_167_33 {Ls : Nat} {xs : Nat → Int32} : am_tbl Ls xs 167 33 = some (o_aload 0 1) := (m_167 33).trans rfl
theorem t_167_34 {Ls : Nat} {xs : Nat → Int32} : am_tbl Ls xs 167 34 = some (o_get 5 1) := (m_167 34).trans rfl
theorem t_167_37 {Ls : Nat} {xs : Nat → Int32} : am_tbl Ls xs 167 37 = some (o_get 6 3) := (m_167 37).trans rfl
theorem t_167_40 {Ls : Nat} {xs : Nat → Int32} : am_tbl Ls xs 167 40 = some (o_iload 2 1) := (m_167 40).trans rfl
theorem t_167_41 {Ls : Nat} {xs : Nat → Int32} : am_tbl Ls xs 167 41 = some (o_iald 1) := (m_167 41).trans rfl
theorem t_167_42 {Ls : Nat} {xs : Nat → Int32} : am_tbl Ls xs 167 42 = some (o_if (fun x => decide (x ≤ 0)) 69) := (m_167 42).trans rfl
theorem t_167_45 {Ls : Nat} {xs : Nat → Int32} : am_tbl Ls xs 167 45 = some (o_aload 0 1) := (m_167 45).trans rfl
theorem t_167_46 {Ls : Nat} {xs : Nat → Int32} : am_tbl Ls xs 167 46 = some (o_get 5 2) := (m_167 46).trans rfl
theorem t_167_49 {Ls : Nat} {xs : Nat → Int32} : am_tbl Ls xs 167 49 = some (o_iload 1 1) := (m_167 49).trans rfl
theorem t_167_50 {Ls : Nat} {xs : Nat → Int32} : am_tbl Ls xs 167 50 = some (o_dup2) := (m_167 50).trans rfl
theorem t_167_51 {Ls : Nat} {xs : Nat → Int32} : am_tbl Ls xs 167 51 = some (o_lald) := (m_167 51).trans rfl
theorem t_167_52 {Ls : Nat} {xs : Nat → Int32} : am_tbl Ls xs 167 52 = some (o_aload 0 1) := (m_167 52).trans rfl
theorem t_167_53 {Ls : Nat} {xs : Nat → Int32} : am_tbl Ls xs 167 53 = some (o_iload 2 1) := (m_167 53).trans rfl
theorem t_167_54 {Ls : Nat} {xs : Nat → Int32} : am_tbl Ls xs 167 54 = some (o_aload 0 1) := (m_167 54).trans rfl
theorem t_167_55 {Ls : Nat} {xs : Nat → Int32} : am_tbl Ls xs 167 55 = some (o_get 5 1) := (m_167 55).trans rfl
theorem t_167_58 {Ls : Nat} {xs : Nat → Int32} : am_tbl Ls xs 167 58 = some (o_get 6 3) := (m_167 58).trans rfl
theorem t_167_61 {Ls : Nat} {xs : Nat → Int32} : am_tbl Ls xs 167 61 = some (o_iload 2 1) := (m_167 61).trans rfl
theorem t_167_62 {Ls : Nat} {xs : Nat → Int32} : am_tbl Ls xs 167 62 = some (o_iald 1) := (m_167 62).trans rfl
theorem t_167_63 {Ls : Nat} {xs : Nat → Int32} : am_tbl Ls xs 167 63 = some (o_iload 1 1) := (m_167 63).trans rfl
theorem t_167_64 {Ls : Nat} {xs : Nat → Int32} : am_tbl Ls xs 167 64 = some (o_callv 169 3 5 9) := (m_167 64).trans rfl
theorem t_167_67 {Ls : Nat} {xs : Nat → Int32} : am_tbl Ls xs 167 67 = some (o_lbin (fun x y => x ||| y)) := (m_167 67).trans rfl
theorem t_167_68 {Ls : Nat} {xs : Nat → Int32} : am_tbl Ls xs 167 68 = some (o_last) := (m_167 68).trans rfl
theorem t_167_69 {Ls : Nat} {xs : Nat → Int32} : am_tbl Ls xs 167 69 = some (o_nrm [0, 1, 2] (o_iinc 2 1)) := (m_167 69).trans rfl
theorem t_167_72 {Ls : Nat} {xs : Nat → Int32} : am_tbl Ls xs 167 72 = some (o_goto 22) := (m_167 72).trans rfl
theorem t_167_75 {Ls : Nat} {xs : Nat → Int32} : am_tbl Ls xs 167 75 = some (o_iinc 1 1) := (m_167 75).trans rfl
theorem t_167_78 {Ls : Nat} {xs : Nat → Int32} : am_tbl Ls xs 167 78 = some (o_goto 2) := (m_167 78).trans rfl
theorem t_167_81 {Ls : Nat} {xs : Nat → Int32} : am_tbl Ls xs 167 81 = some (o_vret) := (m_167 81).trans rfl
theorem m_168 {Ls : Nat} {xs : Nat → Int32} (pc : Nat) : am_tbl Ls xs 168 pc = am_lk (op_X5_isDark) pc := rfl
theorem t_168_0 {Ls : Nat} {xs : Nat → Int32} : am_tbl Ls xs 168 0 = some (o_aload 0 1) := (m_168 0).trans rfl
theorem t_168_1 {Ls : Nat} {xs : Nat → Int32} : am_tbl Ls xs 168 1 = some (o_get 5 0) := (m_168 1).trans rfl
theorem t_168_4 {Ls : Nat} {xs : Nat → Int32} : am_tbl Ls xs 168 4 = some (o_iload 1 1) := (m_168 4).trans rfl
theorem t_168_5 {Ls : Nat} {xs : Nat → Int32} : am_tbl Ls xs 168 5 = some (o_callv 133 1 2 2) := (m_168 5).trans rfl
theorem t_168_8 {Ls : Nat} {xs : Nat → Int32} : am_tbl Ls xs 168 8 = some (o_if (fun x => decide (x = 0)) 41) := (m_168 8).trans rfl
theorem t_168_11 {Ls : Nat} {xs : Nat → Int32} : am_tbl Ls xs 168 11 = some (o_aload 0 1) := (m_168 11).trans rfl
theorem t_168_12 {Ls : Nat} {xs : Nat → Int32} : am_tbl Ls xs 168 12 = some (o_get 5 0) := (m_168 12).trans rfl
theorem t_168_15 {Ls : Nat} {xs : Nat → Int32} : am_tbl Ls xs 168 15 = some (o_iload 2 1) := (m_168 15).trans rfl
theorem t_168_16 {Ls : Nat} {xs : Nat → Int32} : am_tbl Ls xs 168 16 = some (o_callv 134 1 2 2) := (m_168 16).trans rfl
theorem t_168_19 {Ls : Nat} {xs : Nat → Int32} : am_tbl Ls xs 168 19 = some (o_if (fun x => decide (x = 0)) 41) := (m_168 19).trans rfl
theorem t_168_22 {Ls : Nat} {xs : Nat → Int32} : am_tbl Ls xs 168 22 = some (o_aload 0 1) := (m_168 22).trans rfl
theorem t_168_23 {Ls : Nat} {xs : Nat → Int32} : am_tbl Ls xs 168 23 = some (o_get 5 2) := (m_168 23).trans rfl
theorem t_168_26 {Ls : Nat} {xs : Nat → Int32} : am_tbl Ls xs 168 26 = some (o_iload 2 1) := (m_168 26).trans rfl
theorem t_168_27 {Ls : Nat} {xs : Nat → Int32} : am_tbl Ls xs 168 27 = some (o_lald) := (m_168 27).trans rfl
theorem t_168_28 {Ls : Nat} {xs : Nat → Int32} : am_tbl Ls xs 168 28 = some (o_iload 1 1) := (m_168 28).trans rfl
theorem t_168_29 {Ls : Nat} {xs : Nat → Int32} : am_tbl Ls xs 168 29 = some (o_lsh (fun x y => x >>> (y.toInt64 &&& 63))) := (m_168 29).trans rfl
theorem t_168_30 {Ls : Nat} {xs : Nat → Int32} : am_tbl Ls xs 168 30 = some (o_push (.long 1) 1) := (m_168 30).trans rfl
theorem t_168_31 {Ls : Nat} {xs : Nat → Int32} : am_tbl Ls xs 168 31 = some (o_lbin (fun x y => x &&& y)) := (m_168 31).trans rfl
theorem t_168_32 {Ls : Nat} {xs : Nat → Int32} : am_tbl Ls xs 168 32 = some (o_push (.long 0) 1) := (m_168 32).trans rfl
theorem t_168_33 {Ls : Nat} {xs : Nat → Int32} : am_tbl Ls xs 168 33 = some (o_lcmp) := (m_168 33).trans rfl
theorem t_168_34 {Ls : Nat} {xs : Nat → Int32} : am_tbl Ls xs 168 34 = some (o_if (fun x => decide (x = 0)) 41) := (m_168 34).trans rfl
theorem t_168_37 {Ls : Nat} {xs : Nat → Int32} : am_tbl Ls xs 168 37 = some (o_push (.int 1) 1) := (m_168 37).trans rfl
theorem t_168_38 {Ls : Nat} {xs : Nat → Int32} : am_tbl Ls xs 168 38 = some (o_goto 42) := (m_168 38).trans rfl
theorem t_168_41 {Ls : Nat} {xs : Nat → Int32} : am_tbl Ls xs 168 41 = some (o_nrm [] (o_push (.int 0) 1)) := (m_168 41).trans rfl
theorem t_168_42 {Ls : Nat} {xs : Nat → Int32} : am_tbl Ls xs 168 42 = some (o_nrm [] (o_zret)) := (m_168 42).trans rfl
theorem m_169 {Ls : Nat} {xs : Nat → Int32} (pc : Nat) : am_tbl Ls xs 169 pc = am_lk (op_X5_shadowFrom) pc := rfl
theorem t_169_0 {Ls : Nat} {xs : Nat → Int32} : am_tbl Ls xs 169 0 = some (o_iload 1 1) := (m_169 0).trans rfl
theorem t_169_1 {Ls : Nat} {xs : Nat → Int32} : am_tbl Ls xs 169 1 = some (o_if (fun x => decide (x < 0)) 45) := (m_169 1).trans rfl
theorem t_169_4 {Ls : Nat} {xs : Nat → Int32} : am_tbl Ls xs 169 4 = some (o_iload 1 1) := (m_169 4).trans rfl
theorem t_169_5 {Ls : Nat} {xs : Nat → Int32} : am_tbl Ls xs 169 5 = some (o_aload 0 1) := (m_169 5).trans rfl
theorem t_169_6 {Ls : Nat} {xs : Nat → Int32} : am_tbl Ls xs 169 6 = some (o_get 5 0) := (m_169 6).trans rfl
theorem t_169_9 {Ls : Nat} {xs : Nat → Int32} : am_tbl Ls xs 169 9 = some (o_get 2 2) := (m_169 9).trans rfl
theorem t_169_12 {Ls : Nat} {xs : Nat → Int32} : am_tbl Ls xs 169 12 = some (o_icmp (fun x y => decide (y ≤ x)) 45) := (m_169 12).trans rfl
theorem t_169_15 {Ls : Nat} {xs : Nat → Int32} : am_tbl Ls xs 169 15 = some (o_iload 3 1) := (m_169 15).trans rfl
theorem t_169_16 {Ls : Nat} {xs : Nat → Int32} : am_tbl Ls xs 169 16 = some (o_if (fun x => decide (x < 0)) 45) := (m_169 16).trans rfl
theorem t_169_19 {Ls : Nat} {xs : Nat → Int32} : am_tbl Ls xs 169 19 = some (o_iload 3 1) := (m_169 19).trans rfl
theorem t_169_20 {Ls : Nat} {xs : Nat → Int32} : am_tbl Ls xs 169 20 = some (o_aload 0 1) := (m_169 20).trans rfl
theorem t_169_21 {Ls : Nat} {xs : Nat → Int32} : am_tbl Ls xs 169 21 = some (o_get 5 0) := (m_169 21).trans rfl
theorem t_169_24 {Ls : Nat} {xs : Nat → Int32} : am_tbl Ls xs 169 24 = some (o_get 2 3) := (m_169 24).trans rfl
theorem t_169_27 {Ls : Nat} {xs : Nat → Int32} : am_tbl Ls xs 169 27 = some (o_icmp (fun x y => decide (y ≤ x)) 45) := (m_169 27).trans rfl
theorem t_169_30 {Ls : Nat} {xs : Nat → Int32} : am_tbl Ls xs 169 30 = some (o_aload 0 1) := (m_169 30).trans rfl
theorem t_169_31 {Ls : Nat} {xs : Nat → Int32} : am_tbl Ls xs 169 31 = some (o_get 5 2) := (m_169 31).trans rfl
theorem t_169_34 {Ls : Nat} {xs : Nat → Int32} : am_tbl Ls xs 169 34 = some (o_iload 3 1) := (m_169 34).trans rfl
theorem t_169_35 {Ls : Nat} {xs : Nat → Int32} : am_tbl Ls xs 169 35 = some (o_lald) := (m_169 35).trans rfl
theorem t_169_36 {Ls : Nat} {xs : Nat → Int32} : am_tbl Ls xs 169 36 = some (o_iload 1 1) := (m_169 36).trans rfl
theorem t_169_37 {Ls : Nat} {xs : Nat → Int32} : am_tbl Ls xs 169 37 = some (o_lsh (fun x y => x >>> (y.toInt64 &&& 63))) := (m_169 37).trans rfl
theorem t_169_38 {Ls : Nat} {xs : Nat → Int32} : am_tbl Ls xs 169 38 = some (o_push (.long 1) 1) := (m_169 38).trans rfl
theorem t_169_39 {Ls : Nat} {xs : Nat → Int32} : am_tbl Ls xs 169 39 = some (o_lbin (fun x y => x &&& y)) := (m_169 39).trans rfl
theorem t_169_40 {Ls : Nat} {xs : Nat → Int32} : am_tbl Ls xs 169 40 = some (o_push (.long 0) 1) := (m_169 40).trans rfl
theorem t_169_41 {Ls : Nat} {xs : Nat → Int32} : am_tbl Ls xs 169 41 = some (o_lcmp) := (m_169 41).trans rfl
theorem t_169_42 {Ls : Nat} {xs : Nat → Int32} : am_tbl Ls xs 169 42 = some (o_if (fun x => decide (x = 0)) 47) := (m_169 42).trans rfl
theorem t_169_45 {Ls : Nat} {xs : Nat → Int32} : am_tbl Ls xs 169 45 = some (o_nrm [] (o_push (.long 0) 1)) := (m_169 45).trans rfl
theorem t_169_46 {Ls : Nat} {xs : Nat → Int32} : am_tbl Ls xs 169 46 = some (o_lret) := (m_169 46).trans rfl
theorem t_169_47 {Ls : Nat} {xs : Nat → Int32} : am_tbl Ls xs 169 47 = some (o_push (.long 0) 1) := (m_169 47).trans rfl
theorem t_169_48 {Ls : Nat} {xs : Nat → Int32} : am_tbl Ls xs 169 48 = some (o_lstore 4 2) := (m_169 48).trans rfl
theorem t_169_50 {Ls : Nat} {xs : Nat → Int32} : am_tbl Ls xs 169 50 = some (o_iload 2 1) := (m_169 50).trans rfl
theorem t_169_51 {Ls : Nat} {xs : Nat → Int32} : am_tbl Ls xs 169 51 = some (o_aload 0 1) := (m_169 51).trans rfl
theorem t_169_52 {Ls : Nat} {xs : Nat → Int32} : am_tbl Ls xs 169 52 = some (o_get 5 0) := (m_169 52).trans rfl
theorem t_169_55 {Ls : Nat} {xs : Nat → Int32} : am_tbl Ls xs 169 55 = some (o_get 2 7) := (m_169 55).trans rfl
theorem t_169_58 {Ls : Nat} {xs : Nat → Int32} : am_tbl Ls xs 169 58 = some (o_iload 3 1) := (m_169 58).trans rfl
theorem t_169_59 {Ls : Nat} {xs : Nat → Int32} : am_tbl Ls xs 169 59 = some (o_iald 1) := (m_169 59).trans rfl
theorem t_169_60 {Ls : Nat} {xs : Nat → Int32} : am_tbl Ls xs 169 60 = some (o_ibin (fun x y => x * y)) := (m_169 60).trans rfl
theorem t_169_61 {Ls : Nat} {xs : Nat → Int32} : am_tbl Ls xs 169 61 = some (o_istore 6 2) := (m_169 61).trans rfl
theorem t_169_63 {Ls : Nat} {xs : Nat → Int32} : am_tbl Ls xs 169 63 = some (o_aload 0 1) := (m_169 63).trans rfl
theorem t_169_64 {Ls : Nat} {xs : Nat → Int32} : am_tbl Ls xs 169 64 = some (o_get 5 0) := (m_169 64).trans rfl
theorem t_169_67 {Ls : Nat} {xs : Nat → Int32} : am_tbl Ls xs 169 67 = some (o_get 2 6) := (m_169 67).trans rfl
theorem t_169_70 {Ls : Nat} {xs : Nat → Int32} : am_tbl Ls xs 169 70 = some (o_iload 3 1) := (m_169 70).trans rfl
theorem t_169_71 {Ls : Nat} {xs : Nat → Int32} : am_tbl Ls xs 169 71 = some (o_aald) := (m_169 71).trans rfl
theorem t_169_72 {Ls : Nat} {xs : Nat → Int32} : am_tbl Ls xs 169 72 = some (o_iload 1 1) := (m_169 72).trans rfl
theorem t_169_73 {Ls : Nat} {xs : Nat → Int32} : am_tbl Ls xs 169 73 = some (o_iald 1) := (m_169 73).trans rfl
theorem t_169_74 {Ls : Nat} {xs : Nat → Int32} : am_tbl Ls xs 169 74 = some (o_istore 7 2) := (m_169 74).trans rfl
theorem t_169_76 {Ls : Nat} {xs : Nat → Int32} : am_tbl Ls xs 169 76 = some (o_push (.int 0) 1) := (m_169 76).trans rfl
theorem t_169_77 {Ls : Nat} {xs : Nat → Int32} : am_tbl Ls xs 169 77 = some (o_istore 8 2) := (m_169 77).trans rfl
theorem t_169_79 {Ls : Nat} {xs : Nat → Int32} : am_tbl Ls xs 169 79 = some (o_nrm [0, 3, 4, 6, 7, 8] (o_iload 8 2)) := (m_169 79).trans rfl
theorem t_169_81 {Ls : Nat} {xs : Nat → Int32} : am_tbl Ls xs 169 81 = some (o_iload 6 2) := (m_169 81).trans rfl
theorem t_169_83 {Ls : Nat} {xs : Nat → Int32} : am_tbl Ls xs 169 83 = some (o_icmp (fun x y => decide (y ≤ x)) 148) := (m_169 83).trans rfl
theorem t_169_86 {Ls : Nat} {xs : Nat → Int32} : am_tbl Ls xs 169 86 = some (o_iload 7 2) := (m_169 86).trans rfl
theorem t_169_88 {Ls : Nat} {xs : Nat → Int32} : am_tbl Ls xs 169 88 = some (o_if (fun x => decide (x < 0)) 148) := (m_169 88).trans rfl
theorem t_169_91 {Ls : Nat} {xs : Nat → Int32} : am_tbl Ls xs 169 91 = some (o_iload 7 2) := (m_169 91).trans rfl
theorem t_169_93 {Ls : Nat} {xs : Nat → Int32} : am_tbl Ls xs 169 93 = some (o_aload 0 1) := (m_169 93).trans rfl
theorem t_169_94 {Ls : Nat} {xs : Nat → Int32} : am_tbl Ls xs 169 94 = some (o_get 5 0) := (m_169 94).trans rfl
theorem t_169_97 {Ls : Nat} {xs : Nat → Int32} : am_tbl Ls xs 169 97 = some (o_get 2 2) := (m_169 97).trans rfl
theorem t_169_100 {Ls : Nat} {xs : Nat → Int32} : am_tbl Ls xs 169 100 = some (o_icmp (fun x y => decide (y ≤ x)) 148) := (m_169 100).trans rfl
theorem t_169_103 {Ls : Nat} {xs : Nat → Int32} : am_tbl Ls xs 169 103 = some (o_aload 0 1) := (m_169 103).trans rfl
theorem t_169_104 {Ls : Nat} {xs : Nat → Int32} : am_tbl Ls xs 169 104 = some (o_get 5 1) := (m_169 104).trans rfl
theorem t_169_107 {Ls : Nat} {xs : Nat → Int32} : am_tbl Ls xs 169 107 = some (o_get 6 3) := (m_169 107).trans rfl
theorem t_169_110 {Ls : Nat} {xs : Nat → Int32} : am_tbl Ls xs 169 110 = some (o_iload 7 2) := (m_169 110).trans rfl
set_option maxRecDepth 20000 in
theorem t_169_112 {Ls : Nat} {xs : Nat → Int32} : am_tbl Ls xs 169 112 = some (o_iald 1) := (m_169 112).trans rfl
set_option maxRecDepth 20000 in
theorem t_169_113 {Ls : Nat} {xs : Nat → Int32} : am_tbl Ls xs 169 113 = some (o_if (fun x => decide (x ≤ 0)) 119) := (m_169 113).trans rfl
set_option maxRecDepth 20000 in
theorem t_169_116 {Ls : Nat} {xs : Nat → Int32} : am_tbl Ls xs 169 116 = some (o_goto 148) := (m_169 116).trans rfl
set_option maxRecDepth 20000 in
theorem t_169_119 {Ls : Nat} {xs : Nat → Int32} : am_tbl Ls xs 169 119 = some (o_lload 4 2) := (m_169 119).trans rfl
set_option maxRecDepth 20000 in
theorem t_169_121 {Ls : Nat} {xs : Nat → Int32} : am_tbl Ls xs 169 121 = some (o_push (.long 1) 1) := (m_169 121).trans rfl
set_option maxRecDepth 20000 in
theorem t_169_122 {Ls : Nat} {xs : Nat → Int32} : am_tbl Ls xs 169 122 = some (o_iload 7 2) := (m_169 122).trans rfl
set_option maxRecDepth 20000 in
theorem t_169_124 {Ls : Nat} {xs : Nat → Int32} : am_tbl Ls xs 169 124 = some (o_lsh (fun x y => x <<< (y.toInt64 &&& 63))) := (m_169 124).trans rfl
set_option maxRecDepth 20000 in
theorem t_169_125 {Ls : Nat} {xs : Nat → Int32} : am_tbl Ls xs 169 125 = some (o_lbin (fun x y => x ||| y)) := (m_169 125).trans rfl
set_option maxRecDepth 20000 in
theorem t_169_126 {Ls : Nat} {xs : Nat → Int32} : am_tbl Ls xs 169 126 = some (o_lstore 4 2) := (m_169 126).trans rfl
set_option maxRecDepth 20000 in
theorem t_169_128 {Ls : Nat} {xs : Nat → Int32} : am_tbl Ls xs 169 128 = some (o_aload 0 1) := (m_169 128).trans rfl
set_option maxRecDepth 20000 in
theorem t_169_129 {Ls : Nat} {xs : Nat → Int32} : am_tbl Ls xs 169 129 = some (o_get 5 0) := (m_169 129).trans rfl
set_option maxRecDepth 20000 in
theorem t_169_132 {Ls : Nat} {xs : Nat → Int32} : am_tbl Ls xs 169 132 = some (o_get 2 6) := (m_169 132).trans rfl
set_option maxRecDepth 20000 in
theorem t_169_135 {Ls : Nat} {xs : Nat → Int32} : am_tbl Ls xs 169 135 = some (o_iload 3 1) := (m_169 135).trans rfl
set_option maxRecDepth 20000 in
theorem t_169_136 {Ls : Nat} {xs : Nat → Int32} : am_tbl Ls xs 169 136 = some (o_aald) := (m_169 136).trans rfl
set_option maxRecDepth 20000 in
theorem t_169_137 {Ls : Nat} {xs : Nat → Int32} : am_tbl Ls xs 169 137 = some (o_iload 7 2) := (m_169 137).trans rfl
set_option maxRecDepth 20000 in
theorem t_169_139 {Ls : Nat} {xs : Nat → Int32} : am_tbl Ls xs 169 139 = some (o_iald 1) := (m_169 139).trans rfl
set_option maxRecDepth 20000 in
theorem t_169_140 {Ls : Nat} {xs : Nat → Int32} : am_tbl Ls xs 169 140 = some (o_istore 7 2) := (m_169 140).trans rfl
set_option maxRecDepth 20000 in
theorem t_169_142 {Ls : Nat} {xs : Nat → Int32} : am_tbl Ls xs 169 142 = some (o_iinc 8 1) := (m_169 142).trans rfl
set_option maxRecDepth 20000 in
theorem t_169_145 {Ls : Nat} {xs : Nat → Int32} : am_tbl Ls xs 169 145 = some (o_goto 79) := (m_169 145).trans rfl
set_option maxRecDepth 20000 in
theorem t_169_148 {Ls : Nat} {xs : Nat → Int32} : am_tbl Ls xs 169 148 = some (o_nrm [4] (o_lload 4 2)) := (m_169 148).trans rfl
set_option maxRecDepth 20000 in
theorem t_169_150 {Ls : Nat} {xs : Nat → Int32} : am_tbl Ls xs 169 150 = some (o_lret) := (m_169 150).trans rfl
theorem m_170 {Ls : Nat} {xs : Nat → Int32} (pc : Nat) : am_tbl Ls xs 170 pc = am_lk (op_X5_tallOf) pc := rfl
theorem t_170_0 {Ls : Nat} {xs : Nat → Int32} : am_tbl Ls xs 170 0 = some (o_iload 1 1) := (m_170 0).trans rfl
theorem t_170_1 {Ls : Nat} {xs : Nat → Int32} : am_tbl Ls xs 170 1 = some (o_if (fun x => decide (x < 0)) 37) := (m_170 1).trans rfl
theorem t_170_4 {Ls : Nat} {xs : Nat → Int32} : am_tbl Ls xs 170 4 = some (o_iload 1 1) := (m_170 4).trans rfl
theorem t_170_5 {Ls : Nat} {xs : Nat → Int32} : am_tbl Ls xs 170 5 = some (o_aload 0 1) := (m_170 5).trans rfl
theorem t_170_6 {Ls : Nat} {xs : Nat → Int32} : am_tbl Ls xs 170 6 = some (o_get 5 0) := (m_170 6).trans rfl
theorem t_170_9 {Ls : Nat} {xs : Nat → Int32} : am_tbl Ls xs 170 9 = some (o_get 2 4) := (m_170 9).trans rfl
theorem t_170_12 {Ls : Nat} {xs : Nat → Int32} : am_tbl Ls xs 170 12 = some (o_icmp (fun x y => decide (y ≤ x)) 37) := (m_170 12).trans rfl
theorem t_170_15 {Ls : Nat} {xs : Nat → Int32} : am_tbl Ls xs 170 15 = some (o_aload 0 1) := (m_170 15).trans rfl
theorem t_170_16 {Ls : Nat} {xs : Nat → Int32} : am_tbl Ls xs 170 16 = some (o_get 5 0) := (m_170 16).trans rfl
theorem t_170_19 {Ls : Nat} {xs : Nat → Int32} : am_tbl Ls xs 170 19 = some (o_get 2 10) := (m_170 19).trans rfl
theorem t_170_22 {Ls : Nat} {xs : Nat → Int32} : am_tbl Ls xs 170 22 = some (o_iload 1 1) := (m_170 22).trans rfl
theorem t_170_23 {Ls : Nat} {xs : Nat → Int32} : am_tbl Ls xs 170 23 = some (o_iald 1) := (m_170 23).trans rfl
theorem t_170_24 {Ls : Nat} {xs : Nat → Int32} : am_tbl Ls xs 170 24 = some (o_aload 0 1) := (m_170 24).trans rfl
theorem t_170_25 {Ls : Nat} {xs : Nat → Int32} : am_tbl Ls xs 170 25 = some (o_get 5 1) := (m_170 25).trans rfl
theorem t_170_28 {Ls : Nat} {xs : Nat → Int32} : am_tbl Ls xs 170 28 = some (o_get 6 1) := (m_170 28).trans rfl
theorem t_170_31 {Ls : Nat} {xs : Nat → Int32} : am_tbl Ls xs 170 31 = some (o_iload 1 1) := (m_170 31).trans rfl
theorem t_170_32 {Ls : Nat} {xs : Nat → Int32} : am_tbl Ls xs 170 32 = some (o_iald 1) := (m_170 32).trans rfl
theorem t_170_33 {Ls : Nat} {xs : Nat → Int32} : am_tbl Ls xs 170 33 = some (o_ibin (fun x y => x - y)) := (m_170 33).trans rfl
theorem t_170_34 {Ls : Nat} {xs : Nat → Int32} : am_tbl Ls xs 170 34 = some (o_goto 38) := (m_170 34).trans rfl
theorem t_170_37 {Ls : Nat} {xs : Nat → Int32} : am_tbl Ls xs 170 37 = some (o_nrm [] (o_push (.int 0) 1)) := (m_170 37).trans rfl
theorem t_170_38 {Ls : Nat} {xs : Nat → Int32} : am_tbl Ls xs 170 38 = some (o_nrm [] (o_iret)) := (m_170 38).trans rfl
theorem m_171 {Ls : Nat} {xs : Nat → Int32} (pc : Nat) : am_tbl Ls xs 171 pc = am_lk (op_X5_somebodyIsOn) pc := rfl
theorem t_171_0 {Ls : Nat} {xs : Nat → Int32} : am_tbl Ls xs 171 0 = some (o_push (.int 0) 1) := (m_171 0).trans rfl
theorem t_171_1 {Ls : Nat} {xs : Nat → Int32} : am_tbl Ls xs 171 1 = some (o_istore 2 1) := (m_171 1).trans rfl
theorem t_171_2 {Ls : Nat} {xs : Nat → Int32} : am_tbl Ls xs 171 2 = some (o_nrm [0, 1, 2] (o_iload 2 1)) := (m_171 2).trans rfl
theorem t_171_3 {Ls : Nat} {xs : Nat → Int32} : am_tbl Ls xs 171 3 = some (o_aload 0 1) := (m_171 3).trans rfl
theorem t_171_4 {Ls : Nat} {xs : Nat → Int32} : am_tbl Ls xs 171 4 = some (o_get 5 0) := (m_171 4).trans rfl
theorem t_171_7 {Ls : Nat} {xs : Nat → Int32} : am_tbl Ls xs 171 7 = some (o_get 2 4) := (m_171 7).trans rfl
theorem t_171_10 {Ls : Nat} {xs : Nat → Int32} : am_tbl Ls xs 171 10 = some (o_icmp (fun x y => decide (y ≤ x)) 34) := (m_171 10).trans rfl
theorem t_171_13 {Ls : Nat} {xs : Nat → Int32} : am_tbl Ls xs 171 13 = some (o_aload 0 1) := (m_171 13).trans rfl
theorem t_171_14 {Ls : Nat} {xs : Nat → Int32} : am_tbl Ls xs 171 14 = some (o_get 5 1) := (m_171 14).trans rfl
theorem t_171_17 {Ls : Nat} {xs : Nat → Int32} : am_tbl Ls xs 171 17 = some (o_get 6 0) := (m_171 17).trans rfl
theorem t_171_20 {Ls : Nat} {xs : Nat → Int32} : am_tbl Ls xs 171 20 = some (o_iload 2 1) := (m_171 20).trans rfl
theorem t_171_21 {Ls : Nat} {xs : Nat → Int32} : am_tbl Ls xs 171 21 = some (o_iald 1) := (m_171 21).trans rfl
theorem t_171_22 {Ls : Nat} {xs : Nat → Int32} : am_tbl Ls xs 171 22 = some (o_iload 1 1) := (m_171 22).trans rfl
theorem t_171_23 {Ls : Nat} {xs : Nat → Int32} : am_tbl Ls xs 171 23 = some (o_icmp (fun x y => decide (x ≠ y)) 28) := (m_171 23).trans rfl
theorem t_171_26 {Ls : Nat} {xs : Nat → Int32} : am_tbl Ls xs 171 26 = some (o_push (.int 1) 1) := (m_171 26).trans rfl
theorem t_171_27 {Ls : Nat} {xs : Nat → Int32} : am_tbl Ls xs 171 27 = some (o_zret) := (m_171 27).trans rfl
theorem t_171_28 {Ls : Nat} {xs : Nat → Int32} : am_tbl Ls xs 171 28 = some (o_iinc 2 1) := (m_171 28).trans rfl
theorem t_171_31 {Ls : Nat} {xs : Nat → Int32} : am_tbl Ls xs 171 31 = some (o_goto 2) := (m_171 31).trans rfl
theorem t_171_34 {Ls : Nat} {xs : Nat → Int32} : am_tbl Ls xs 171 34 = some (o_push (.int 0) 1) := (m_171 34).trans rfl
theorem t_171_35 {Ls : Nat} {xs : Nat → Int32} : am_tbl Ls xs 171 35 = some (o_zret) := (m_171 35).trans rfl
theorem m_172 {Ls : Nat} {xs : Nat → Int32} (pc : Nat) : am_tbl Ls xs 172 pc = am_lk (op_X5_castersOn) pc := rfl
theorem t_172_0 {Ls : Nat} {xs : Nat → Int32} : am_tbl Ls xs 172 0 = some (o_push (.int 0) 1) := (m_172 0).trans rfl
theorem t_172_1 {Ls : Nat} {xs : Nat → Int32} : am_tbl Ls xs 172 1 = some (o_istore 3 1) := (m_172 1).trans rfl
theorem t_172_2 {Ls : Nat} {xs : Nat → Int32} : am_tbl Ls xs 172 2 = some (o_push (.int 0) 1) := (m_172 2).trans rfl
theorem t_172_3 {Ls : Nat} {xs : Nat → Int32} : am_tbl Ls xs 172 3 = some (o_istore 4 2) := (m_172 3).trans rfl
theorem t_172_5 {Ls : Nat} {xs : Nat → Int32} : am_tbl Ls xs 172 5 = some (o_nrm [0, 1, 2, 3, 4] (o_iload 4 2)) := (m_172 5).trans rfl
theorem t_172_7 {Ls : Nat} {xs : Nat → Int32} : am_tbl Ls xs 172 7 = some (o_aload 0 1) := (m_172 7).trans rfl
theorem t_172_8 {Ls : Nat} {xs : Nat → Int32} : am_tbl Ls xs 172 8 = some (o_get 5 0) := (m_172 8).trans rfl
theorem t_172_11 {Ls : Nat} {xs : Nat → Int32} : am_tbl Ls xs 172 11 = some (o_get 2 4) := (m_172 11).trans rfl
theorem t_172_14 {Ls : Nat} {xs : Nat → Int32} : am_tbl Ls xs 172 14 = some (o_icmp (fun x y => decide (y ≤ x)) 60) := (m_172 14).trans rfl
theorem t_172_17 {Ls : Nat} {xs : Nat → Int32} : am_tbl Ls xs 172 17 = some (o_aload 0 1) := (m_172 17).trans rfl
theorem t_172_18 {Ls : Nat} {xs : Nat → Int32} : am_tbl Ls xs 172 18 = some (o_aload 0 1) := (m_172 18).trans rfl
theorem t_172_19 {Ls : Nat} {xs : Nat → Int32} : am_tbl Ls xs 172 19 = some (o_get 5 1) := (m_172 19).trans rfl
theorem t_172_22 {Ls : Nat} {xs : Nat → Int32} : am_tbl Ls xs 172 22 = some (o_get 6 0) := (m_172 22).trans rfl
theorem t_172_25 {Ls : Nat} {xs : Nat → Int32} : am_tbl Ls xs 172 25 = some (o_iload 4 2) := (m_172 25).trans rfl
theorem t_172_27 {Ls : Nat} {xs : Nat → Int32} : am_tbl Ls xs 172 27 = some (o_iald 1) := (m_172 27).trans rfl
theorem t_172_28 {Ls : Nat} {xs : Nat → Int32} : am_tbl Ls xs 172 28 = some (o_aload 0 1) := (m_172 28).trans rfl
theorem t_172_29 {Ls : Nat} {xs : Nat → Int32} : am_tbl Ls xs 172 29 = some (o_iload 4 2) := (m_172 29).trans rfl
theorem t_172_31 {Ls : Nat} {xs : Nat → Int32} : am_tbl Ls xs 172 31 = some (o_callv 170 1 5 2) := (m_172 31).trans rfl
theorem t_172_34 {Ls : Nat} {xs : Nat → Int32} : am_tbl Ls xs 172 34 = some (o_iload 2 1) := (m_172 34).trans rfl
theorem t_172_35 {Ls : Nat} {xs : Nat → Int32} : am_tbl Ls xs 172 35 = some (o_callv 169 3 5 9) := (m_172 35).trans rfl
theorem t_172_38 {Ls : Nat} {xs : Nat → Int32} : am_tbl Ls xs 172 38 = some (o_iload 1 1) := (m_172 38).trans rfl
theorem t_172_39 {Ls : Nat} {xs : Nat → Int32} : am_tbl Ls xs 172 39 = some (o_lsh (fun x y => x >>> (y.toInt64 &&& 63))) := (m_172 39).trans rfl
theorem t_172_40 {Ls : Nat} {xs : Nat → Int32} : am_tbl Ls xs 172 40 = some (o_push (.long 1) 1) := (m_172 40).trans rfl
theorem t_172_41 {Ls : Nat} {xs : Nat → Int32} : am_tbl Ls xs 172 41 = some (o_lbin (fun x y => x &&& y)) := (m_172 41).trans rfl
theorem t_172_42 {Ls : Nat} {xs : Nat → Int32} : am_tbl Ls xs 172 42 = some (o_push (.long 0) 1) := (m_172 42).trans rfl
theorem t_172_43 {Ls : Nat} {xs : Nat → Int32} : am_tbl Ls xs 172 43 = some (o_lcmp) := (m_172 43).trans rfl
theorem t_172_44 {Ls : Nat} {xs : Nat → Int32} : am_tbl Ls xs 172 44 = some (o_if (fun x => decide (x = 0)) 54) := (m_172 44).trans rfl
theorem t_172_47 {Ls : Nat} {xs : Nat → Int32} : am_tbl Ls xs 172 47 = some (o_iload 3 1) := (m_172 47).trans rfl
theorem t_172_48 {Ls : Nat} {xs : Nat → Int32} : am_tbl Ls xs 172 48 = some (o_push (.int 1) 1) := (m_172 48).trans rfl
theorem t_172_49 {Ls : Nat} {xs : Nat → Int32} : am_tbl Ls xs 172 49 = some (o_iload 4 2) := (m_172 49).trans rfl
theorem t_172_51 {Ls : Nat} {xs : Nat → Int32} : am_tbl Ls xs 172 51 = some (o_ibin (fun x y => x <<< (y &&& 31))) := (m_172 51).trans rfl
theorem t_172_52 {Ls : Nat} {xs : Nat → Int32} : am_tbl Ls xs 172 52 = some (o_ibin (fun x y => x ||| y)) := (m_172 52).trans rfl
theorem t_172_53 {Ls : Nat} {xs : Nat → Int32} : am_tbl Ls xs 172 53 = some (o_istore 3 1) := (m_172 53).trans rfl
theorem t_172_54 {Ls : Nat} {xs : Nat → Int32} : am_tbl Ls xs 172 54 = some (o_nrm [0, 1, 2, 3, 4] (o_iinc 4 1)) := (m_172 54).trans rfl
theorem t_172_57 {Ls : Nat} {xs : Nat → Int32} : am_tbl Ls xs 172 57 = some (o_goto 5) := (m_172 57).trans rfl
theorem t_172_60 {Ls : Nat} {xs : Nat → Int32} : am_tbl Ls xs 172 60 = some (o_iload 3 1) := (m_172 60).trans rfl
theorem t_172_61 {Ls : Nat} {xs : Nat → Int32} : am_tbl Ls xs 172 61 = some (o_iret) := (m_172 61).trans rfl
theorem m_173 {Ls : Nat} {xs : Nat → Int32} (pc : Nat) : am_tbl Ls xs 173 pc = am_lk (op_X5_owerOf) pc := rfl
theorem t_173_0 {Ls : Nat} {xs : Nat → Int32} : am_tbl Ls xs 173 0 = some (o_push (.int 0) 1) := (m_173 0).trans rfl
theorem t_173_1 {Ls : Nat} {xs : Nat → Int32} : am_tbl Ls xs 173 1 = some (o_istore 3 1) := (m_173 1).trans rfl
theorem t_173_2 {Ls : Nat} {xs : Nat → Int32} : am_tbl Ls xs 173 2 = some (o_nrm [0, 1, 2, 3] (o_iload 3 1)) := (m_173 2).trans rfl
theorem t_173_3 {Ls : Nat} {xs : Nat → Int32} : am_tbl Ls xs 173 3 = some (o_aload 0 1) := (m_173 3).trans rfl
theorem t_173_4 {Ls : Nat} {xs : Nat → Int32} : am_tbl Ls xs 173 4 = some (o_get 5 0) := (m_173 4).trans rfl
theorem t_173_7 {Ls : Nat} {xs : Nat → Int32} : am_tbl Ls xs 173 7 = some (o_get 2 4) := (m_173 7).trans rfl
theorem t_173_10 {Ls : Nat} {xs : Nat → Int32} : am_tbl Ls xs 173 10 = some (o_icmp (fun x y => decide (y ≤ x)) 51) := (m_173 10).trans rfl
theorem t_173_13 {Ls : Nat} {xs : Nat → Int32} : am_tbl Ls xs 173 13 = some (o_aload 0 1) := (m_173 13).trans rfl
theorem t_173_14 {Ls : Nat} {xs : Nat → Int32} : am_tbl Ls xs 173 14 = some (o_iload 3 1) := (m_173 14).trans rfl
theorem t_173_15 {Ls : Nat} {xs : Nat → Int32} : am_tbl Ls xs 173 15 = some (o_aload 0 1) := (m_173 15).trans rfl
theorem t_173_16 {Ls : Nat} {xs : Nat → Int32} : am_tbl Ls xs 173 16 = some (o_get 5 1) := (m_173 16).trans rfl
theorem t_173_19 {Ls : Nat} {xs : Nat → Int32} : am_tbl Ls xs 173 19 = some (o_get 6 0) := (m_173 19).trans rfl
theorem t_173_22 {Ls : Nat} {xs : Nat → Int32} : am_tbl Ls xs 173 22 = some (o_iload 3 1) := (m_173 22).trans rfl
theorem t_173_23 {Ls : Nat} {xs : Nat → Int32} : am_tbl Ls xs 173 23 = some (o_iald 1) := (m_173 23).trans rfl
theorem t_173_24 {Ls : Nat} {xs : Nat → Int32} : am_tbl Ls xs 173 24 = some (o_aload 0 1) := (m_173 24).trans rfl
theorem t_173_25 {Ls : Nat} {xs : Nat → Int32} : am_tbl Ls xs 173 25 = some (o_iload 3 1) := (m_173 25).trans rfl
theorem t_173_26 {Ls : Nat} {xs : Nat → Int32} : am_tbl Ls xs 173 26 = some (o_callv 170 1 5 2) := (m_173 26).trans rfl
theorem t_173_29 {Ls : Nat} {xs : Nat → Int32} : am_tbl Ls xs 173 29 = some (o_push (.int (-1)) 1) := (m_173 29).trans rfl
theorem t_173_30 {Ls : Nat} {xs : Nat → Int32} : am_tbl Ls xs 173 30 = some (o_iload 2 1) := (m_173 30).trans rfl
theorem t_173_31 {Ls : Nat} {xs : Nat → Int32} : am_tbl Ls xs 173 31 = some (o_callv 175 5 5 10) := (m_173 31).trans rfl
theorem t_173_34 {Ls : Nat} {xs : Nat → Int32} : am_tbl Ls xs 173 34 = some (o_iload 1 1) := (m_173 34).trans rfl
theorem t_173_35 {Ls : Nat} {xs : Nat → Int32} : am_tbl Ls xs 173 35 = some (o_lsh (fun x y => x >>> (y.toInt64 &&& 63))) := (m_173 35).trans rfl
theorem t_173_36 {Ls : Nat} {xs : Nat → Int32} : am_tbl Ls xs 173 36 = some (o_push (.long 1) 1) := (m_173 36).trans rfl
theorem t_173_37 {Ls : Nat} {xs : Nat → Int32} : am_tbl Ls xs 173 37 = some (o_lbin (fun x y => x &&& y)) := (m_173 37).trans rfl
theorem t_173_38 {Ls : Nat} {xs : Nat → Int32} : am_tbl Ls xs 173 38 = some (o_push (.long 0) 1) := (m_173 38).trans rfl
theorem t_173_39 {Ls : Nat} {xs : Nat → Int32} : am_tbl Ls xs 173 39 = some (o_lcmp) := (m_173 39).trans rfl
theorem t_173_40 {Ls : Nat} {xs : Nat → Int32} : am_tbl Ls xs 173 40 = some (o_if (fun x => decide (x = 0)) 45) := (m_173 40).trans rfl
theorem t_173_43 {Ls : Nat} {xs : Nat → Int32} : am_tbl Ls xs 173 43 = some (o_iload 3 1) := (m_173 43).trans rfl
theorem t_173_44 {Ls : Nat} {xs : Nat → Int32} : am_tbl Ls xs 173 44 = some (o_iret) := (m_173 44).trans rfl
theorem t_173_45 {Ls : Nat} {xs : Nat → Int32} : am_tbl Ls xs 173 45 = some (o_iinc 3 1) := (m_173 45).trans rfl
theorem t_173_48 {Ls : Nat} {xs : Nat → Int32} : am_tbl Ls xs 173 48 = some (o_goto 2) := (m_173 48).trans rfl
theorem t_173_51 {Ls : Nat} {xs : Nat → Int32} : am_tbl Ls xs 173 51 = some (o_push (.int (-1)) 1) := (m_173 51).trans rfl
theorem t_173_52 {Ls : Nat} {xs : Nat → Int32} : am_tbl Ls xs 173 52 = some (o_iret) := (m_173 52).trans rfl
theorem m_174 {Ls : Nat} {xs : Nat → Int32} (pc : Nat) : am_tbl Ls xs 174 pc = am_lk (op_X5_isAhead) pc := rfl
theorem t_174_0 {Ls : Nat} {xs : Nat → Int32} : am_tbl Ls xs 174 0 = some (o_aload 0 1) := (m_174 0).trans rfl
theorem t_174_1 {Ls : Nat} {xs : Nat → Int32} : am_tbl Ls xs 174 1 = some (o_get 5 1) := (m_174 1).trans rfl
theorem t_174_4 {Ls : Nat} {xs : Nat → Int32} : am_tbl Ls xs 174 4 = some (o_get 6 5) := (m_174 4).trans rfl
theorem t_174_7 {Ls : Nat} {xs : Nat → Int32} : am_tbl Ls xs 174 7 = some (o_push (.int 1) 1) := (m_174 7).trans rfl
theorem t_174_8 {Ls : Nat} {xs : Nat → Int32} : am_tbl Ls xs 174 8 = some (o_icmp (fun x y => decide (x ≠ y)) 29) := (m_174 8).trans rfl
theorem t_174_11 {Ls : Nat} {xs : Nat → Int32} : am_tbl Ls xs 174 11 = some (o_iload 2 1) := (m_174 11).trans rfl
theorem t_174_12 {Ls : Nat} {xs : Nat → Int32} : am_tbl Ls xs 174 12 = some (o_iload 4 2) := (m_174 12).trans rfl
theorem t_174_14 {Ls : Nat} {xs : Nat → Int32} : am_tbl Ls xs 174 14 = some (o_icmp (fun x y => decide (x = y)) 29) := (m_174 14).trans rfl
theorem t_174_17 {Ls : Nat} {xs : Nat → Int32} : am_tbl Ls xs 174 17 = some (o_iload 2 1) := (m_174 17).trans rfl
theorem t_174_18 {Ls : Nat} {xs : Nat → Int32} : am_tbl Ls xs 174 18 = some (o_iload 4 2) := (m_174 18).trans rfl
theorem t_174_20 {Ls : Nat} {xs : Nat → Int32} : am_tbl Ls xs 174 20 = some (o_icmp (fun x y => decide (x ≤ y)) 27) := (m_174 20).trans rfl
theorem t_174_23 {Ls : Nat} {xs : Nat → Int32} : am_tbl Ls xs 174 23 = some (o_push (.int 1) 1) := (m_174 23).trans rfl
theorem t_174_24 {Ls : Nat} {xs : Nat → Int32} : am_tbl Ls xs 174 24 = some (o_goto 28) := (m_174 24).trans rfl
theorem t_174_27 {Ls : Nat} {xs : Nat → Int32} : am_tbl Ls xs 174 27 = some (o_push (.int 0) 1) := (m_174 27).trans rfl
theorem t_174_28 {Ls : Nat} {xs : Nat → Int32} : am_tbl Ls xs 174 28 = some (o_nrm [] (o_zret)) := (m_174 28).trans rfl
theorem t_174_29 {Ls : Nat} {xs : Nat → Int32} : am_tbl Ls xs 174 29 = some (o_nrm [1, 3] (o_iload 1 1)) := (m_174 29).trans rfl
theorem t_174_30 {Ls : Nat} {xs : Nat → Int32} : am_tbl Ls xs 174 30 = some (o_iload 3 1) := (m_174 30).trans rfl
theorem t_174_31 {Ls : Nat} {xs : Nat → Int32} : am_tbl Ls xs 174 31 = some (o_icmp (fun x y => decide (y ≤ x)) 38) := (m_174 31).trans rfl
theorem t_174_34 {Ls : Nat} {xs : Nat → Int32} : am_tbl Ls xs 174 34 = some (o_push (.int 1) 1) := (m_174 34).trans rfl
theorem t_174_35 {Ls : Nat} {xs : Nat → Int32} : am_tbl Ls xs 174 35 = some (o_goto 39) := (m_174 35).trans rfl
theorem t_174_38 {Ls : Nat} {xs : Nat → Int32} : am_tbl Ls xs 174 38 = some (o_push (.int 0) 1) := (m_174 38).trans rfl
theorem t_174_39 {Ls : Nat} {xs : Nat → Int32} : am_tbl Ls xs 174 39 = some (o_nrm [] (o_zret)) := (m_174 39).trans rfl
theorem m_175 {Ls : Nat} {xs : Nat → Int32} (pc : Nat) : am_tbl Ls xs 175 pc = am_lk (op_X5_owedCells) pc := rfl
theorem t_175_0 {Ls : Nat} {xs : Nat → Int32} : am_tbl Ls xs 175 0 = some (o_aload 0 1) := (m_175 0).trans rfl
theorem t_175_1 {Ls : Nat} {xs : Nat → Int32} : am_tbl Ls xs 175 1 = some (o_get 5 0) := (m_175 1).trans rfl
theorem t_175_4 {Ls : Nat} {xs : Nat → Int32} : am_tbl Ls xs 175 4 = some (o_iload 5 2) := (m_175 4).trans rfl
theorem t_175_6 {Ls : Nat} {xs : Nat → Int32} : am_tbl Ls xs 175 6 = some (o_callv 134 1 2 2) := (m_175 6).trans rfl
theorem t_175_9 {Ls : Nat} {xs : Nat → Int32} : am_tbl Ls xs 175 9 = some (o_if (fun x => decide (x ≠ 0)) 14) := (m_175 9).trans rfl
theorem t_175_12 {Ls : Nat} {xs : Nat → Int32} : am_tbl Ls xs 175 12 = some (o_push (.long 0) 1) := (m_175 12).trans rfl
theorem t_175_13 {Ls : Nat} {xs : Nat → Int32} : am_tbl Ls xs 175 13 = some (o_lret) := (m_175 13).trans rfl
theorem t_175_14 {Ls : Nat} {xs : Nat → Int32} : am_tbl Ls xs 175 14 = some (o_aload 0 1) := (m_175 14).trans rfl
theorem t_175_15 {Ls : Nat} {xs : Nat → Int32} : am_tbl Ls xs 175 15 = some (o_iload 2 1) := (m_175 15).trans rfl
theorem t_175_16 {Ls : Nat} {xs : Nat → Int32} : am_tbl Ls xs 175 16 = some (o_iload 3 1) := (m_175 16).trans rfl
theorem t_175_17 {Ls : Nat} {xs : Nat → Int32} : am_tbl Ls xs 175 17 = some (o_iload 5 2) := (m_175 17).trans rfl
theorem t_175_19 {Ls : Nat} {xs : Nat → Int32} : am_tbl Ls xs 175 19 = some (o_callv 169 3 5 9) := (m_175 19).trans rfl
theorem t_175_22 {Ls : Nat} {xs : Nat → Int32} : am_tbl Ls xs 175 22 = some (o_aload 0 1) := (m_175 22).trans rfl
theorem t_175_23 {Ls : Nat} {xs : Nat → Int32} : am_tbl Ls xs 175 23 = some (o_get 5 2) := (m_175 23).trans rfl
theorem t_175_26 {Ls : Nat} {xs : Nat → Int32} : am_tbl Ls xs 175 26 = some (o_iload 5 2) := (m_175 26).trans rfl
theorem t_175_28 {Ls : Nat} {xs : Nat → Int32} : am_tbl Ls xs 175 28 = some (o_lald) := (m_175 28).trans rfl
theorem t_175_29 {Ls : Nat} {xs : Nat → Int32} : am_tbl Ls xs 175 29 = some (o_push (.long (-1)) 3) := (m_175 29).trans rfl
theorem t_175_32 {Ls : Nat} {xs : Nat → Int32} : am_tbl Ls xs 175 32 = some (o_lbin (fun x y => x ^^^ y)) := (m_175 32).trans rfl
theorem t_175_33 {Ls : Nat} {xs : Nat → Int32} : am_tbl Ls xs 175 33 = some (o_lbin (fun x y => x &&& y)) := (m_175 33).trans rfl
theorem t_175_34 {Ls : Nat} {xs : Nat → Int32} : am_tbl Ls xs 175 34 = some (o_lstore 6 2) := (m_175 34).trans rfl
theorem t_175_36 {Ls : Nat} {xs : Nat → Int32} : am_tbl Ls xs 175 36 = some (o_push (.int 0) 1) := (m_175 36).trans rfl
theorem t_175_37 {Ls : Nat} {xs : Nat → Int32} : am_tbl Ls xs 175 37 = some (o_istore 8 2) := (m_175 37).trans rfl
theorem t_175_39 {Ls : Nat} {xs : Nat → Int32} : am_tbl Ls xs 175 39 = some (o_nrm [0, 1, 3, 4, 5, 6, 8] (o_iload 8 2)) := (m_175 39).trans rfl
theorem t_175_41 {Ls : Nat} {xs : Nat → Int32} : am_tbl Ls xs 175 41 = some (o_aload 0 1) := (m_175 41).trans rfl
theorem t_175_42 {Ls : Nat} {xs : Nat → Int32} : am_tbl Ls xs 175 42 = some (o_get 5 0) := (m_175 42).trans rfl
theorem t_175_45 {Ls : Nat} {xs : Nat → Int32} : am_tbl Ls xs 175 45 = some (o_get 2 4) := (m_175 45).trans rfl
theorem t_175_48 {Ls : Nat} {xs : Nat → Int32} : am_tbl Ls xs 175 48 = some (o_icmp (fun x y => decide (y ≤ x)) 125) := (m_175 48).trans rfl
theorem t_175_51 {Ls : Nat} {xs : Nat → Int32} : am_tbl Ls xs 175 51 = some (o_lload 6 2) := (m_175 51).trans rfl
theorem t_175_53 {Ls : Nat} {xs : Nat → Int32} : am_tbl Ls xs 175 53 = some (o_push (.long 0) 1) := (m_175 53).trans rfl
theorem t_175_54 {Ls : Nat} {xs : Nat → Int32} : am_tbl Ls xs 175 54 = some (o_lcmp) := (m_175 54).trans rfl
theorem t_175_55 {Ls : Nat} {xs : Nat → Int32} : am_tbl Ls xs 175 55 = some (o_if (fun x => decide (x = 0)) 125) := (m_175 55).trans rfl
theorem t_175_58 {Ls : Nat} {xs : Nat → Int32} : am_tbl Ls xs 175 58 = some (o_aload 0 1) := (m_175 58).trans rfl
theorem t_175_59 {Ls : Nat} {xs : Nat → Int32} : am_tbl Ls xs 175 59 = some (o_iload 8 2) := (m_175 59).trans rfl
theorem t_175_61 {Ls : Nat} {xs : Nat → Int32} : am_tbl Ls xs 175 61 = some (o_callv 170 1 5 2) := (m_175 61).trans rfl
theorem t_175_64 {Ls : Nat} {xs : Nat → Int32} : am_tbl Ls xs 175 64 = some (o_istore 9 2) := (m_175 64).trans rfl
theorem t_175_66 {Ls : Nat} {xs : Nat → Int32} : am_tbl Ls xs 175 66 = some (o_iload 8 2) := (m_175 66).trans rfl
theorem t_175_68 {Ls : Nat} {xs : Nat → Int32} : am_tbl Ls xs 175 68 = some (o_iload 1 1) := (m_175 68).trans rfl
theorem t_175_69 {Ls : Nat} {xs : Nat → Int32} : am_tbl Ls xs 175 69 = some (o_icmp (fun x y => decide (x = y)) 119) := (m_175 69).trans rfl
theorem t_175_72 {Ls : Nat} {xs : Nat → Int32} : am_tbl Ls xs 175 72 = some (o_iload 8 2) := (m_175 72).trans rfl
theorem t_175_74 {Ls : Nat} {xs : Nat → Int32} : am_tbl Ls xs 175 74 = some (o_iload 4 2) := (m_175 74).trans rfl
theorem t_175_76 {Ls : Nat} {xs : Nat → Int32} : am_tbl Ls xs 175 76 = some (o_icmp (fun x y => decide (x = y)) 119) := (m_175 76).trans rfl
theorem t_175_79 {Ls : Nat} {xs : Nat → Int32} : am_tbl Ls xs 175 79 = some (o_aload 0 1) := (m_175 79).trans rfl
theorem t_175_80 {Ls : Nat} {xs : Nat → Int32} : am_tbl Ls xs 175 80 = some (o_iload 8 2) := (m_175 80).trans rfl
theorem t_175_82 {Ls : Nat} {xs : Nat → Int32} : am_tbl Ls xs 175 82 = some (o_iload 9 2) := (m_175 82).trans rfl
theorem t_175_84 {Ls : Nat} {xs : Nat → Int32} : am_tbl Ls xs 175 84 = some (o_iload 1 1) := (m_175 84).trans rfl
theorem t_175_85 {Ls : Nat} {xs : Nat → Int32} : am_tbl Ls xs 175 85 = some (o_iload 3 1) := (m_175 85).trans rfl
theorem t_175_86 {Ls : Nat} {xs : Nat → Int32} : am_tbl Ls xs 175 86 = some (o_callv 174 4 5 5) := (m_175 86).trans rfl
theorem t_175_89 {Ls : Nat} {xs : Nat → Int32} : am_tbl Ls xs 175 89 = some (o_if (fun x => decide (x = 0)) 119) := (m_175 89).trans rfl
theorem t_175_92 {Ls : Nat} {xs : Nat → Int32} : am_tbl Ls xs 175 92 = some (o_lload 6 2) := (m_175 92).trans rfl
theorem t_175_94 {Ls : Nat} {xs : Nat → Int32} : am_tbl Ls xs 175 94 = some (o_aload 0 1) := (m_175 94).trans rfl
theorem t_175_95 {Ls : Nat} {xs : Nat → Int32} : am_tbl Ls xs 175 95 = some (o_aload 0 1) := (m_175 95).trans rfl
theorem t_175_96 {Ls : Nat} {xs : Nat → Int32} : am_tbl Ls xs 175 96 = some (o_get 5 1) := (m_175 96).trans rfl
theorem t_175_99 {Ls : Nat} {xs : Nat → Int32} : am_tbl Ls xs 175 99 = some (o_get 6 0) := (m_175 99).trans rfl
theorem t_175_102 {Ls : Nat} {xs : Nat → Int32} : am_tbl Ls xs 175 102 = some (o_iload 8 2) := (m_175 102).trans rfl
theorem t_175_104 {Ls : Nat} {xs : Nat → Int32} : am_tbl Ls xs 175 104 = some (o_iald 1) := (m_175 104).trans rfl
theorem t_175_105 {Ls : Nat} {xs : Nat → Int32} : am_tbl Ls xs 175 105 = some (o_iload 9 2) := (m_175 105).trans rfl
theorem t_175_107 {Ls : Nat} {xs : Nat → Int32} : am_tbl Ls xs 175 107 = some (o_iload 5 2) := (m_175 107).trans rfl
theorem t_175_109 {Ls : Nat} {xs : Nat → Int32} : am_tbl Ls xs 175 109 = some (o_callv 169 3 5 9) := (m_175 109).trans rfl
theorem t_175_112 {Ls : Nat} {xs : Nat → Int32} : am_tbl Ls xs 175 112 = some (o_push (.long (-1)) 3) := (m_175 112).trans rfl
theorem t_175_115 {Ls : Nat} {xs : Nat → Int32} : am_tbl Ls xs 175 115 = some (o_lbin (fun x y => x ^^^ y)) := (m_175 115).trans rfl
theorem t_175_116 {Ls : Nat} {xs : Nat → Int32} : am_tbl Ls xs 175 116 = some (o_lbin (fun x y => x &&& y)) := (m_175 116).trans rfl
set_option maxRecDepth 20000 in
theorem t_175_117 {Ls : Nat} {xs : Nat → Int32} : am_tbl Ls xs 175 117 = some (o_lstore 6 2) := (m_175 117).trans rfl
set_option maxRecDepth 20000 in
theorem t_175_119 {Ls : Nat} {xs : Nat → Int32} : am_tbl Ls xs 175 119 = some (o_nrm [0, 1, 3, 4, 5, 6, 8] (o_iinc 8 1)) := (m_175 119).trans rfl
set_option maxRecDepth 20000 in
theorem t_175_122 {Ls : Nat} {xs : Nat → Int32} : am_tbl Ls xs 175 122 = some (o_goto 39) := (m_175 122).trans rfl
set_option maxRecDepth 20000 in
theorem t_175_125 {Ls : Nat} {xs : Nat → Int32} : am_tbl Ls xs 175 125 = some (o_nrm [6] (o_lload 6 2)) := (m_175 125).trans rfl
set_option maxRecDepth 20000 in
theorem t_175_127 {Ls : Nat} {xs : Nat → Int32} : am_tbl Ls xs 175 127 = some (o_lret) := (m_175 127).trans rfl
theorem m_176 {Ls : Nat} {xs : Nat → Int32} (pc : Nat) : am_tbl Ls xs 176 pc = am_lk (op_X5_owedAt) pc := rfl
theorem t_176_0 {Ls : Nat} {xs : Nat → Int32} : am_tbl Ls xs 176 0 = some (o_aload 0 1) := (m_176 0).trans rfl
theorem t_176_1 {Ls : Nat} {xs : Nat → Int32} : am_tbl Ls xs 176 1 = some (o_iload 1 1) := (m_176 1).trans rfl
theorem t_176_2 {Ls : Nat} {xs : Nat → Int32} : am_tbl Ls xs 176 2 = some (o_iload 2 1) := (m_176 2).trans rfl
theorem t_176_3 {Ls : Nat} {xs : Nat → Int32} : am_tbl Ls xs 176 3 = some (o_aload 0 1) := (m_176 3).trans rfl
theorem t_176_4 {Ls : Nat} {xs : Nat → Int32} : am_tbl Ls xs 176 4 = some (o_iload 1 1) := (m_176 4).trans rfl
theorem t_176_5 {Ls : Nat} {xs : Nat → Int32} : am_tbl Ls xs 176 5 = some (o_callv 170 1 5 2) := (m_176 5).trans rfl
theorem t_176_8 {Ls : Nat} {xs : Nat → Int32} : am_tbl Ls xs 176 8 = some (o_push (.int (-1)) 1) := (m_176 8).trans rfl
theorem t_176_9 {Ls : Nat} {xs : Nat → Int32} : am_tbl Ls xs 176 9 = some (o_iload 3 1) := (m_176 9).trans rfl
theorem t_176_10 {Ls : Nat} {xs : Nat → Int32} : am_tbl Ls xs 176 10 = some (o_callv 175 5 5 10) := (m_176 10).trans rfl
theorem t_176_13 {Ls : Nat} {xs : Nat → Int32} : am_tbl Ls xs 176 13 = some (o_calls 193 1 2) := (m_176 13).trans rfl
theorem t_176_16 {Ls : Nat} {xs : Nat → Int32} : am_tbl Ls xs 176 16 = some (o_iret) := (m_176 16).trans rfl
theorem m_177 {Ls : Nat} {xs : Nat → Int32} (pc : Nat) : am_tbl Ls xs 177 pc = am_lk (op_X5_meanAt) pc := rfl
theorem t_177_0 {Ls : Nat} {xs : Nat → Int32} : am_tbl Ls xs 177 0 = some (o_push (.int 0) 1) := (m_177 0).trans rfl
theorem t_177_1 {Ls : Nat} {xs : Nat → Int32} : am_tbl Ls xs 177 1 = some (o_istore 5 2) := (m_177 1).trans rfl
theorem t_177_3 {Ls : Nat} {xs : Nat → Int32} : am_tbl Ls xs 177 3 = some (o_push (.int 0) 1) := (m_177 3).trans rfl
theorem t_177_4 {Ls : Nat} {xs : Nat → Int32} : am_tbl Ls xs 177 4 = some (o_istore 6 2) := (m_177 4).trans rfl
theorem t_177_6 {Ls : Nat} {xs : Nat → Int32} : am_tbl Ls xs 177 6 = some (o_nrm [0, 1, 2, 3, 4, 5, 6] (o_iload 6 2)) := (m_177 6).trans rfl
theorem t_177_8 {Ls : Nat} {xs : Nat → Int32} : am_tbl Ls xs 177 8 = some (o_aload 0 1) := (m_177 8).trans rfl
theorem t_177_9 {Ls : Nat} {xs : Nat → Int32} : am_tbl Ls xs 177 9 = some (o_get 5 0) := (m_177 9).trans rfl
theorem t_177_12 {Ls : Nat} {xs : Nat → Int32} : am_tbl Ls xs 177 12 = some (o_get 2 3) := (m_177 12).trans rfl
theorem t_177_15 {Ls : Nat} {xs : Nat → Int32} : am_tbl Ls xs 177 15 = some (o_icmp (fun x y => decide (y ≤ x)) 54) := (m_177 15).trans rfl
theorem t_177_18 {Ls : Nat} {xs : Nat → Int32} : am_tbl Ls xs 177 18 = some (o_iload 5 2) := (m_177 18).trans rfl
theorem t_177_20 {Ls : Nat} {xs : Nat → Int32} : am_tbl Ls xs 177 20 = some (o_aload 0 1) := (m_177 20).trans rfl
theorem t_177_21 {Ls : Nat} {xs : Nat → Int32} : am_tbl Ls xs 177 21 = some (o_iload 1 1) := (m_177 21).trans rfl
theorem t_177_22 {Ls : Nat} {xs : Nat → Int32} : am_tbl Ls xs 177 22 = some (o_iload 2 1) := (m_177 22).trans rfl
theorem t_177_23 {Ls : Nat} {xs : Nat → Int32} : am_tbl Ls xs 177 23 = some (o_iload 3 1) := (m_177 23).trans rfl
theorem t_177_24 {Ls : Nat} {xs : Nat → Int32} : am_tbl Ls xs 177 24 = some (o_iload 4 2) := (m_177 24).trans rfl
theorem t_177_26 {Ls : Nat} {xs : Nat → Int32} : am_tbl Ls xs 177 26 = some (o_iload 6 2) := (m_177 26).trans rfl
theorem t_177_28 {Ls : Nat} {xs : Nat → Int32} : am_tbl Ls xs 177 28 = some (o_callv 175 5 5 10) := (m_177 28).trans rfl
theorem t_177_31 {Ls : Nat} {xs : Nat → Int32} : am_tbl Ls xs 177 31 = some (o_calls 193 1 2) := (m_177 31).trans rfl
theorem t_177_34 {Ls : Nat} {xs : Nat → Int32} : am_tbl Ls xs 177 34 = some (o_aload 0 1) := (m_177 34).trans rfl
theorem t_177_35 {Ls : Nat} {xs : Nat → Int32} : am_tbl Ls xs 177 35 = some (o_get 5 0) := (m_177 35).trans rfl
theorem t_177_38 {Ls : Nat} {xs : Nat → Int32} : am_tbl Ls xs 177 38 = some (o_get 2 8) := (m_177 38).trans rfl
theorem t_177_41 {Ls : Nat} {xs : Nat → Int32} : am_tbl Ls xs 177 41 = some (o_iload 6 2) := (m_177 41).trans rfl
theorem t_177_43 {Ls : Nat} {xs : Nat → Int32} : am_tbl Ls xs 177 43 = some (o_iald 1) := (m_177 43).trans rfl
theorem t_177_44 {Ls : Nat} {xs : Nat → Int32} : am_tbl Ls xs 177 44 = some (o_ibin (fun x y => x * y)) := (m_177 44).trans rfl
theorem t_177_45 {Ls : Nat} {xs : Nat → Int32} : am_tbl Ls xs 177 45 = some (o_ibin (fun x y => x + y)) := (m_177 45).trans rfl
theorem t_177_46 {Ls : Nat} {xs : Nat → Int32} : am_tbl Ls xs 177 46 = some (o_istore 5 2) := (m_177 46).trans rfl
theorem t_177_48 {Ls : Nat} {xs : Nat → Int32} : am_tbl Ls xs 177 48 = some (o_iinc 6 1) := (m_177 48).trans rfl
theorem t_177_51 {Ls : Nat} {xs : Nat → Int32} : am_tbl Ls xs 177 51 = some (o_goto 6) := (m_177 51).trans rfl
theorem t_177_54 {Ls : Nat} {xs : Nat → Int32} : am_tbl Ls xs 177 54 = some (o_iload 5 2) := (m_177 54).trans rfl
theorem t_177_56 {Ls : Nat} {xs : Nat → Int32} : am_tbl Ls xs 177 56 = some (o_iret) := (m_177 56).trans rfl
theorem m_178 {Ls : Nat} {xs : Nat → Int32} (pc : Nat) : am_tbl Ls xs 178 pc = am_lk (op_X5_meanOf) pc := rfl
theorem t_178_0 {Ls : Nat} {xs : Nat → Int32} : am_tbl Ls xs 178 0 = some (o_aload 0 1) := (m_178 0).trans rfl
theorem t_178_1 {Ls : Nat} {xs : Nat → Int32} : am_tbl Ls xs 178 1 = some (o_get 5 0) := (m_178 1).trans rfl
theorem t_178_4 {Ls : Nat} {xs : Nat → Int32} : am_tbl Ls xs 178 4 = some (o_iload 1 1) := (m_178 4).trans rfl
theorem t_178_5 {Ls : Nat} {xs : Nat → Int32} : am_tbl Ls xs 178 5 = some (o_callv 135 1 2 2) := (m_178 5).trans rfl
theorem t_178_8 {Ls : Nat} {xs : Nat → Int32} : am_tbl Ls xs 178 8 = some (o_if (fun x => decide (x = 0)) 34) := (m_178 8).trans rfl
theorem t_178_11 {Ls : Nat} {xs : Nat → Int32} : am_tbl Ls xs 178 11 = some (o_aload 0 1) := (m_178 11).trans rfl
theorem t_178_12 {Ls : Nat} {xs : Nat → Int32} : am_tbl Ls xs 178 12 = some (o_iload 1 1) := (m_178 12).trans rfl
theorem t_178_13 {Ls : Nat} {xs : Nat → Int32} : am_tbl Ls xs 178 13 = some (o_aload 0 1) := (m_178 13).trans rfl
theorem t_178_14 {Ls : Nat} {xs : Nat → Int32} : am_tbl Ls xs 178 14 = some (o_get 5 1) := (m_178 14).trans rfl
theorem t_178_17 {Ls : Nat} {xs : Nat → Int32} : am_tbl Ls xs 178 17 = some (o_get 6 0) := (m_178 17).trans rfl
theorem t_178_20 {Ls : Nat} {xs : Nat → Int32} : am_tbl Ls xs 178 20 = some (o_iload 1 1) := (m_178 20).trans rfl
theorem t_178_21 {Ls : Nat} {xs : Nat → Int32} : am_tbl Ls xs 178 21 = some (o_iald 1) := (m_178 21).trans rfl
theorem t_178_22 {Ls : Nat} {xs : Nat → Int32} : am_tbl Ls xs 178 22 = some (o_aload 0 1) := (m_178 22).trans rfl
theorem t_178_23 {Ls : Nat} {xs : Nat → Int32} : am_tbl Ls xs 178 23 = some (o_iload 1 1) := (m_178 23).trans rfl
theorem t_178_24 {Ls : Nat} {xs : Nat → Int32} : am_tbl Ls xs 178 24 = some (o_callv 170 1 5 2) := (m_178 24).trans rfl
theorem t_178_27 {Ls : Nat} {xs : Nat → Int32} : am_tbl Ls xs 178 27 = some (o_push (.int (-1)) 1) := (m_178 27).trans rfl
theorem t_178_28 {Ls : Nat} {xs : Nat → Int32} : am_tbl Ls xs 178 28 = some (o_callv 177 4 5 7) := (m_178 28).trans rfl
theorem t_178_31 {Ls : Nat} {xs : Nat → Int32} : am_tbl Ls xs 178 31 = some (o_goto 35) := (m_178 31).trans rfl
theorem t_178_34 {Ls : Nat} {xs : Nat → Int32} : am_tbl Ls xs 178 34 = some (o_push (.int 0) 1) := (m_178 34).trans rfl
theorem t_178_35 {Ls : Nat} {xs : Nat → Int32} : am_tbl Ls xs 178 35 = some (o_nrm [] (o_iret)) := (m_178 35).trans rfl
theorem m_179 {Ls : Nat} {xs : Nat → Int32} (pc : Nat) : am_tbl Ls xs 179 pc = am_lk (op_X5_meanOfAll) pc := rfl
theorem t_179_0 {Ls : Nat} {xs : Nat → Int32} : am_tbl Ls xs 179 0 = some (o_push (.int 0) 1) := (m_179 0).trans rfl
theorem t_179_1 {Ls : Nat} {xs : Nat → Int32} : am_tbl Ls xs 179 1 = some (o_istore 1 1) := (m_179 1).trans rfl
theorem t_179_2 {Ls : Nat} {xs : Nat → Int32} : am_tbl Ls xs 179 2 = some (o_push (.int 0) 1) := (m_179 2).trans rfl
theorem t_179_3 {Ls : Nat} {xs : Nat → Int32} : am_tbl Ls xs 179 3 = some (o_istore 2 1) := (m_179 3).trans rfl
theorem t_179_4 {Ls : Nat} {xs : Nat → Int32} : am_tbl Ls xs 179 4 = some (o_nrm [0, 1, 2] (o_iload 2 1)) := (m_179 4).trans rfl
theorem t_179_5 {Ls : Nat} {xs : Nat → Int32} : am_tbl Ls xs 179 5 = some (o_aload 0 1) := (m_179 5).trans rfl
theorem t_179_6 {Ls : Nat} {xs : Nat → Int32} : am_tbl Ls xs 179 6 = some (o_get 5 0) := (m_179 6).trans rfl
theorem t_179_9 {Ls : Nat} {xs : Nat → Int32} : am_tbl Ls xs 179 9 = some (o_get 2 4) := (m_179 9).trans rfl
theorem t_179_12 {Ls : Nat} {xs : Nat → Int32} : am_tbl Ls xs 179 12 = some (o_icmp (fun x y => decide (y ≤ x)) 44) := (m_179 12).trans rfl
theorem t_179_15 {Ls : Nat} {xs : Nat → Int32} : am_tbl Ls xs 179 15 = some (o_iload 1 1) := (m_179 15).trans rfl
theorem t_179_16 {Ls : Nat} {xs : Nat → Int32} : am_tbl Ls xs 179 16 = some (o_aload 0 1) := (m_179 16).trans rfl
theorem t_179_17 {Ls : Nat} {xs : Nat → Int32} : am_tbl Ls xs 179 17 = some (o_iload 2 1) := (m_179 17).trans rfl
theorem t_179_18 {Ls : Nat} {xs : Nat → Int32} : am_tbl Ls xs 179 18 = some (o_aload 0 1) := (m_179 18).trans rfl
theorem t_179_19 {Ls : Nat} {xs : Nat → Int32} : am_tbl Ls xs 179 19 = some (o_get 5 1) := (m_179 19).trans rfl
theorem t_179_22 {Ls : Nat} {xs : Nat → Int32} : am_tbl Ls xs 179 22 = some (o_get 6 0) := (m_179 22).trans rfl
theorem t_179_25 {Ls : Nat} {xs : Nat → Int32} : am_tbl Ls xs 179 25 = some (o_iload 2 1) := (m_179 25).trans rfl
theorem t_179_26 {Ls : Nat} {xs : Nat → Int32} : am_tbl Ls xs 179 26 = some (o_iald 1) := (m_179 26).trans rfl
theorem t_179_27 {Ls : Nat} {xs : Nat → Int32} : am_tbl Ls xs 179 27 = some (o_aload 0 1) := (m_179 27).trans rfl
theorem t_179_28 {Ls : Nat} {xs : Nat → Int32} : am_tbl Ls xs 179 28 = some (o_iload 2 1) := (m_179 28).trans rfl
theorem t_179_29 {Ls : Nat} {xs : Nat → Int32} : am_tbl Ls xs 179 29 = some (o_callv 170 1 5 2) := (m_179 29).trans rfl
theorem t_179_32 {Ls : Nat} {xs : Nat → Int32} : am_tbl Ls xs 179 32 = some (o_push (.int (-1)) 1) := (m_179 32).trans rfl
theorem t_179_33 {Ls : Nat} {xs : Nat → Int32} : am_tbl Ls xs 179 33 = some (o_callv 177 4 5 7) := (m_179 33).trans rfl
theorem t_179_36 {Ls : Nat} {xs : Nat → Int32} : am_tbl Ls xs 179 36 = some (o_ibin (fun x y => x + y)) := (m_179 36).trans rfl
theorem t_179_37 {Ls : Nat} {xs : Nat → Int32} : am_tbl Ls xs 179 37 = some (o_istore 1 1) := (m_179 37).trans rfl
theorem t_179_38 {Ls : Nat} {xs : Nat → Int32} : am_tbl Ls xs 179 38 = some (o_iinc 2 1) := (m_179 38).trans rfl
theorem t_179_41 {Ls : Nat} {xs : Nat → Int32} : am_tbl Ls xs 179 41 = some (o_goto 4) := (m_179 41).trans rfl
theorem t_179_44 {Ls : Nat} {xs : Nat → Int32} : am_tbl Ls xs 179 44 = some (o_iload 1 1) := (m_179 44).trans rfl
theorem t_179_45 {Ls : Nat} {xs : Nat → Int32} : am_tbl Ls xs 179 45 = some (o_iret) := (m_179 45).trans rfl
theorem m_180 {Ls : Nat} {xs : Nat → Int32} (pc : Nat) : am_tbl Ls xs 180 pc = am_lk (op_X5_worstAt) pc := rfl
theorem t_180_0 {Ls : Nat} {xs : Nat → Int32} : am_tbl Ls xs 180 0 = some (o_push (.int 0) 1) := (m_180 0).trans rfl
theorem t_180_1 {Ls : Nat} {xs : Nat → Int32} : am_tbl Ls xs 180 1 = some (o_istore 3 1) := (m_180 1).trans rfl
theorem t_180_2 {Ls : Nat} {xs : Nat → Int32} : am_tbl Ls xs 180 2 = some (o_push (.int 0) 1) := (m_180 2).trans rfl
theorem t_180_3 {Ls : Nat} {xs : Nat → Int32} : am_tbl Ls xs 180 3 = some (o_istore 4 2) := (m_180 3).trans rfl
theorem t_180_5 {Ls : Nat} {xs : Nat → Int32} : am_tbl Ls xs 180 5 = some (o_nrm [0, 1, 2, 3, 4] (o_iload 4 2)) := (m_180 5).trans rfl
theorem t_180_7 {Ls : Nat} {xs : Nat → Int32} : am_tbl Ls xs 180 7 = some (o_aload 0 1) := (m_180 7).trans rfl
theorem t_180_8 {Ls : Nat} {xs : Nat → Int32} : am_tbl Ls xs 180 8 = some (o_get 5 0) := (m_180 8).trans rfl
theorem t_180_11 {Ls : Nat} {xs : Nat → Int32} : am_tbl Ls xs 180 11 = some (o_get 2 3) := (m_180 11).trans rfl
theorem t_180_14 {Ls : Nat} {xs : Nat → Int32} : am_tbl Ls xs 180 14 = some (o_icmp (fun x y => decide (y ≤ x)) 49) := (m_180 14).trans rfl
theorem t_180_17 {Ls : Nat} {xs : Nat → Int32} : am_tbl Ls xs 180 17 = some (o_aload 0 1) := (m_180 17).trans rfl
theorem t_180_18 {Ls : Nat} {xs : Nat → Int32} : am_tbl Ls xs 180 18 = some (o_get 5 0) := (m_180 18).trans rfl
theorem t_180_21 {Ls : Nat} {xs : Nat → Int32} : am_tbl Ls xs 180 21 = some (o_get 2 8) := (m_180 21).trans rfl
theorem t_180_24 {Ls : Nat} {xs : Nat → Int32} : am_tbl Ls xs 180 24 = some (o_iload 4 2) := (m_180 24).trans rfl
theorem t_180_26 {Ls : Nat} {xs : Nat → Int32} : am_tbl Ls xs 180 26 = some (o_iald 1) := (m_180 26).trans rfl
theorem t_180_27 {Ls : Nat} {xs : Nat → Int32} : am_tbl Ls xs 180 27 = some (o_if (fun x => decide (x ≤ 0)) 43) := (m_180 27).trans rfl
theorem t_180_30 {Ls : Nat} {xs : Nat → Int32} : am_tbl Ls xs 180 30 = some (o_iload 3 1) := (m_180 30).trans rfl
theorem t_180_31 {Ls : Nat} {xs : Nat → Int32} : am_tbl Ls xs 180 31 = some (o_aload 0 1) := (m_180 31).trans rfl
theorem t_180_32 {Ls : Nat} {xs : Nat → Int32} : am_tbl Ls xs 180 32 = some (o_iload 1 1) := (m_180 32).trans rfl
theorem t_180_33 {Ls : Nat} {xs : Nat → Int32} : am_tbl Ls xs 180 33 = some (o_iload 2 1) := (m_180 33).trans rfl
theorem t_180_34 {Ls : Nat} {xs : Nat → Int32} : am_tbl Ls xs 180 34 = some (o_iload 4 2) := (m_180 34).trans rfl
theorem t_180_36 {Ls : Nat} {xs : Nat → Int32} : am_tbl Ls xs 180 36 = some (o_callv 176 3 5 4) := (m_180 36).trans rfl
theorem t_180_39 {Ls : Nat} {xs : Nat → Int32} : am_tbl Ls xs 180 39 = some (o_mth (fun x y => if x < y then y else x)) := (m_180 39).trans rfl
theorem t_180_42 {Ls : Nat} {xs : Nat → Int32} : am_tbl Ls xs 180 42 = some (o_istore 3 1) := (m_180 42).trans rfl
theorem t_180_43 {Ls : Nat} {xs : Nat → Int32} : am_tbl Ls xs 180 43 = some (o_nrm [0, 1, 2, 3, 4] (o_iinc 4 1)) := (m_180 43).trans rfl
theorem t_180_46 {Ls : Nat} {xs : Nat → Int32} : am_tbl Ls xs 180 46 = some (o_goto 5) := (m_180 46).trans rfl
theorem t_180_49 {Ls : Nat} {xs : Nat → Int32} : am_tbl Ls xs 180 49 = some (o_iload 3 1) := (m_180 49).trans rfl
theorem t_180_50 {Ls : Nat} {xs : Nat → Int32} : am_tbl Ls xs 180 50 = some (o_iret) := (m_180 50).trans rfl
theorem m_181 {Ls : Nat} {xs : Nat → Int32} (pc : Nat) : am_tbl Ls xs 181 pc = am_lk (op_X5_owedByAll) pc := rfl
theorem t_181_0 {Ls : Nat} {xs : Nat → Int32} : am_tbl Ls xs 181 0 = some (o_push (.int 0) 1) := (m_181 0).trans rfl
theorem t_181_1 {Ls : Nat} {xs : Nat → Int32} : am_tbl Ls xs 181 1 = some (o_istore 2 1) := (m_181 1).trans rfl
theorem t_181_2 {Ls : Nat} {xs : Nat → Int32} : am_tbl Ls xs 181 2 = some (o_push (.int 0) 1) := (m_181 2).trans rfl
theorem t_181_3 {Ls : Nat} {xs : Nat → Int32} : am_tbl Ls xs 181 3 = some (o_istore 3 1) := (m_181 3).trans rfl
theorem t_181_4 {Ls : Nat} {xs : Nat → Int32} : am_tbl Ls xs 181 4 = some (o_nrm [0, 1, 2, 3] (o_iload 3 1)) := (m_181 4).trans rfl
theorem t_181_5 {Ls : Nat} {xs : Nat → Int32} : am_tbl Ls xs 181 5 = some (o_aload 0 1) := (m_181 5).trans rfl
theorem t_181_6 {Ls : Nat} {xs : Nat → Int32} : am_tbl Ls xs 181 6 = some (o_get 5 0) := (m_181 6).trans rfl
theorem t_181_9 {Ls : Nat} {xs : Nat → Int32} : am_tbl Ls xs 181 9 = some (o_get 2 4) := (m_181 9).trans rfl
theorem t_181_12 {Ls : Nat} {xs : Nat → Int32} : am_tbl Ls xs 181 12 = some (o_icmp (fun x y => decide (y ≤ x)) 39) := (m_181 12).trans rfl
theorem t_181_15 {Ls : Nat} {xs : Nat → Int32} : am_tbl Ls xs 181 15 = some (o_iload 2 1) := (m_181 15).trans rfl
theorem t_181_16 {Ls : Nat} {xs : Nat → Int32} : am_tbl Ls xs 181 16 = some (o_aload 0 1) := (m_181 16).trans rfl
theorem t_181_17 {Ls : Nat} {xs : Nat → Int32} : am_tbl Ls xs 181 17 = some (o_iload 3 1) := (m_181 17).trans rfl
theorem t_181_18 {Ls : Nat} {xs : Nat → Int32} : am_tbl Ls xs 181 18 = some (o_aload 0 1) := (m_181 18).trans rfl
theorem t_181_19 {Ls : Nat} {xs : Nat → Int32} : am_tbl Ls xs 181 19 = some (o_get 5 1) := (m_181 19).trans rfl
theorem t_181_22 {Ls : Nat} {xs : Nat → Int32} : am_tbl Ls xs 181 22 = some (o_get 6 0) := (m_181 22).trans rfl
theorem t_181_25 {Ls : Nat} {xs : Nat → Int32} : am_tbl Ls xs 181 25 = some (o_iload 3 1) := (m_181 25).trans rfl
theorem t_181_26 {Ls : Nat} {xs : Nat → Int32} : am_tbl Ls xs 181 26 = some (o_iald 1) := (m_181 26).trans rfl
theorem t_181_27 {Ls : Nat} {xs : Nat → Int32} : am_tbl Ls xs 181 27 = some (o_iload 1 1) := (m_181 27).trans rfl
theorem t_181_28 {Ls : Nat} {xs : Nat → Int32} : am_tbl Ls xs 181 28 = some (o_callv 176 3 5 4) := (m_181 28).trans rfl
theorem t_181_31 {Ls : Nat} {xs : Nat → Int32} : am_tbl Ls xs 181 31 = some (o_ibin (fun x y => x + y)) := (m_181 31).trans rfl
theorem t_181_32 {Ls : Nat} {xs : Nat → Int32} : am_tbl Ls xs 181 32 = some (o_istore 2 1) := (m_181 32).trans rfl
theorem t_181_33 {Ls : Nat} {xs : Nat → Int32} : am_tbl Ls xs 181 33 = some (o_iinc 3 1) := (m_181 33).trans rfl
theorem t_181_36 {Ls : Nat} {xs : Nat → Int32} : am_tbl Ls xs 181 36 = some (o_goto 4) := (m_181 36).trans rfl
theorem t_181_39 {Ls : Nat} {xs : Nat → Int32} : am_tbl Ls xs 181 39 = some (o_iload 2 1) := (m_181 39).trans rfl
theorem t_181_40 {Ls : Nat} {xs : Nat → Int32} : am_tbl Ls xs 181 40 = some (o_iret) := (m_181 40).trans rfl
theorem m_182 {Ls : Nat} {xs : Nat → Int32} (pc : Nat) : am_tbl Ls xs 182 pc = am_lk (op_X5_richestHour) pc := rfl
theorem t_182_0 {Ls : Nat} {xs : Nat → Int32} : am_tbl Ls xs 182 0 = some (o_push (.int (-1)) 1) := (m_182 0).trans rfl
theorem t_182_1 {Ls : Nat} {xs : Nat → Int32} : am_tbl Ls xs 182 1 = some (o_istore 1 1) := (m_182 1).trans rfl
theorem t_182_2 {Ls : Nat} {xs : Nat → Int32} : am_tbl Ls xs 182 2 = some (o_push (.int (-1)) 1) := (m_182 2).trans rfl
theorem t_182_3 {Ls : Nat} {xs : Nat → Int32} : am_tbl Ls xs 182 3 = some (o_istore 2 1) := (m_182 3).trans rfl
theorem t_182_4 {Ls : Nat} {xs : Nat → Int32} : am_tbl Ls xs 182 4 = some (o_push (.int 0) 1) := (m_182 4).trans rfl
theorem t_182_5 {Ls : Nat} {xs : Nat → Int32} : am_tbl Ls xs 182 5 = some (o_istore 3 1) := (m_182 5).trans rfl
theorem t_182_6 {Ls : Nat} {xs : Nat → Int32} : am_tbl Ls xs 182 6 = some (o_nrm [0, 1, 2, 3] (o_iload 3 1)) := (m_182 6).trans rfl
theorem t_182_7 {Ls : Nat} {xs : Nat → Int32} : am_tbl Ls xs 182 7 = some (o_aload 0 1) := (m_182 7).trans rfl
theorem t_182_8 {Ls : Nat} {xs : Nat → Int32} : am_tbl Ls xs 182 8 = some (o_get 5 0) := (m_182 8).trans rfl
theorem t_182_11 {Ls : Nat} {xs : Nat → Int32} : am_tbl Ls xs 182 11 = some (o_get 2 3) := (m_182 11).trans rfl
theorem t_182_14 {Ls : Nat} {xs : Nat → Int32} : am_tbl Ls xs 182 14 = some (o_icmp (fun x y => decide (y ≤ x)) 41) := (m_182 14).trans rfl
theorem t_182_17 {Ls : Nat} {xs : Nat → Int32} : am_tbl Ls xs 182 17 = some (o_aload 0 1) := (m_182 17).trans rfl
theorem t_182_18 {Ls : Nat} {xs : Nat → Int32} : am_tbl Ls xs 182 18 = some (o_iload 3 1) := (m_182 18).trans rfl
theorem t_182_19 {Ls : Nat} {xs : Nat → Int32} : am_tbl Ls xs 182 19 = some (o_callv 181 1 5 4) := (m_182 19).trans rfl
theorem t_182_22 {Ls : Nat} {xs : Nat → Int32} : am_tbl Ls xs 182 22 = some (o_istore 4 2) := (m_182 22).trans rfl
theorem t_182_24 {Ls : Nat} {xs : Nat → Int32} : am_tbl Ls xs 182 24 = some (o_iload 4 2) := (m_182 24).trans rfl
theorem t_182_26 {Ls : Nat} {xs : Nat → Int32} : am_tbl Ls xs 182 26 = some (o_iload 2 1) := (m_182 26).trans rfl
theorem t_182_27 {Ls : Nat} {xs : Nat → Int32} : am_tbl Ls xs 182 27 = some (o_icmp (fun x y => decide (x ≤ y)) 35) := (m_182 27).trans rfl
theorem t_182_30 {Ls : Nat} {xs : Nat → Int32} : am_tbl Ls xs 182 30 = some (o_iload 4 2) := (m_182 30).trans rfl
theorem t_182_32 {Ls : Nat} {xs : Nat → Int32} : am_tbl Ls xs 182 32 = some (o_istore 2 1) := (m_182 32).trans rfl
theorem t_182_33 {Ls : Nat} {xs : Nat → Int32} : am_tbl Ls xs 182 33 = some (o_iload 3 1) := (m_182 33).trans rfl
theorem t_182_34 {Ls : Nat} {xs : Nat → Int32} : am_tbl Ls xs 182 34 = some (o_istore 1 1) := (m_182 34).trans rfl
theorem t_182_35 {Ls : Nat} {xs : Nat → Int32} : am_tbl Ls xs 182 35 = some (o_nrm [0, 1, 2, 3] (o_iinc 3 1)) := (m_182 35).trans rfl
theorem t_182_38 {Ls : Nat} {xs : Nat → Int32} : am_tbl Ls xs 182 38 = some (o_goto 6) := (m_182 38).trans rfl
theorem t_182_41 {Ls : Nat} {xs : Nat → Int32} : am_tbl Ls xs 182 41 = some (o_iload 1 1) := (m_182 41).trans rfl
theorem t_182_42 {Ls : Nat} {xs : Nat → Int32} : am_tbl Ls xs 182 42 = some (o_iret) := (m_182 42).trans rfl
