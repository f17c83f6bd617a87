/-! THE TABLES BY PLACE -/
theorem m_161 {Ls : Nat} {xs : Nat → Int32} (pc : Nat) : am_tbl Ls xs 161 pc = am_lk (op_X4_add) pc := rfl
theorem t_161_0 {Ls : Nat} {xs : Nat → Int32} : am_tbl Ls xs 161 0 = some (o_aload 0 1) := (m_161 0).trans rfl
theorem t_161_1 {Ls : Nat} {xs : Nat → Int32} : am_tbl Ls xs 161 1 = some (o_get 4 3) := (m_161 1).trans rfl
theorem t_161_4 {Ls : Nat} {xs : Nat → Int32} : am_tbl Ls xs 161 4 = some (o_aload 0 1) := (m_161 4).trans rfl
theorem t_161_5 {Ls : Nat} {xs : Nat → Int32} : am_tbl Ls xs 161 5 = some (o_get 4 0) := (m_161 5).trans rfl
theorem t_161_8 {Ls : Nat} {xs : Nat → Int32} : am_tbl Ls xs 161 8 = some (o_alen) := (m_161 8).trans rfl
theorem t_161_9 {Ls : Nat} {xs : Nat → Int32} : am_tbl Ls xs 161 9 = some (o_icmp (fun x y => decide (x < y)) 14) := (m_161 9).trans rfl
theorem t_161_12 {Ls : Nat} {xs : Nat → Int32} : am_tbl Ls xs 161 12 = some (o_push (.int 0) 1) := (m_161 12).trans rfl
theorem t_161_13 {Ls : Nat} {xs : Nat → Int32} : am_tbl Ls xs 161 13 = some (o_zret) := (m_161 13).trans rfl
theorem t_161_14 {Ls : Nat} {xs : Nat → Int32} : am_tbl Ls xs 161 14 = some (o_aload 0 1) := (m_161 14).trans rfl
theorem t_161_15 {Ls : Nat} {xs : Nat → Int32} : am_tbl Ls xs 161 15 = some (o_get 4 0) := (m_161 15).trans rfl
theorem t_161_18 {Ls : Nat} {xs : Nat → Int32} : am_tbl Ls xs 161 18 = some (o_aload 0 1) := (m_161 18).trans rfl
theorem t_161_19 {Ls : Nat} {xs : Nat → Int32} : am_tbl Ls xs 161 19 = some (o_get 4 3) := (m_161 19).trans rfl
theorem t_161_22 {Ls : Nat} {xs : Nat → Int32} : am_tbl Ls xs 161 22 = some (o_iload 1 1) := (m_161 22).trans rfl
theorem t_161_23 {Ls : Nat} {xs : Nat → Int32} : am_tbl Ls xs 161 23 = some (o_iast 1 (fun x => x)) := (m_161 23).trans rfl
theorem t_161_24 {Ls : Nat} {xs : Nat → Int32} : am_tbl Ls xs 161 24 = some (o_aload 0 1) := (m_161 24).trans rfl
theorem t_161_25 {Ls : Nat} {xs : Nat → Int32} : am_tbl Ls xs 161 25 = some (o_get 4 1) := (m_161 25).trans rfl
theorem t_161_28 {Ls : Nat} {xs : Nat → Int32} : am_tbl Ls xs 161 28 = some (o_aload 0 1) := (m_161 28).trans rfl
theorem t_161_29 {Ls : Nat} {xs : Nat → Int32} : am_tbl Ls xs 161 29 = some (o_get 4 3) := (m_161 29).trans rfl
theorem t_161_32 {Ls : Nat} {xs : Nat → Int32} : am_tbl Ls xs 161 32 = some (o_iload 2 1) := (m_161 32).trans rfl
theorem t_161_33 {Ls : Nat} {xs : Nat → Int32} : am_tbl Ls xs 161 33 = some (o_iast 1 (fun x => x)) := (m_161 33).trans rfl
theorem t_161_34 {Ls : Nat} {xs : Nat → Int32} : am_tbl Ls xs 161 34 = some (o_aload 0 1) := (m_161 34).trans rfl
theorem t_161_35 {Ls : Nat} {xs : Nat → Int32} : am_tbl Ls xs 161 35 = some (o_get 4 2) := (m_161 35).trans rfl
theorem t_161_38 {Ls : Nat} {xs : Nat → Int32} : am_tbl Ls xs 161 38 = some (o_aload 0 1) := (m_161 38).trans rfl
theorem t_161_39 {Ls : Nat} {xs : Nat → Int32} : am_tbl Ls xs 161 39 = some (o_get 4 3) := (m_161 39).trans rfl
theorem t_161_42 {Ls : Nat} {xs : Nat → Int32} : am_tbl Ls xs 161 42 = some (o_iload 3 1) := (m_161 42).trans rfl
theorem t_161_43 {Ls : Nat} {xs : Nat → Int32} : am_tbl Ls xs 161 43 = some (o_iast 1 (fun x => x)) := (m_161 43).trans rfl
theorem t_161_44 {Ls : Nat} {xs : Nat → Int32} : am_tbl Ls xs 161 44 = some (o_aload 0 1) := (m_161 44).trans rfl
theorem t_161_45 {Ls : Nat} {xs : Nat → Int32} : am_tbl Ls xs 161 45 = some (o_dup) := (m_161 45).trans rfl
theorem t_161_46 {Ls : Nat} {xs : Nat → Int32} : am_tbl Ls xs 161 46 = some (o_get 4 3) := (m_161 46).trans rfl
theorem t_161_49 {Ls : Nat} {xs : Nat → Int32} : am_tbl Ls xs 161 49 = some (o_push (.int 1) 1) := (m_161 49).trans rfl
theorem t_161_50 {Ls : Nat} {xs : Nat → Int32} : am_tbl Ls xs 161 50 = some (o_ibin (fun x y => x + y)) := (m_161 50).trans rfl
theorem t_161_51 {Ls : Nat} {xs : Nat → Int32} : am_tbl Ls xs 161 51 = some (o_puti 4 3) := (m_161 51).trans rfl
theorem t_161_54 {Ls : Nat} {xs : Nat → Int32} : am_tbl Ls xs 161 54 = some (o_push (.int 1) 1) := (m_161 54).trans rfl
theorem t_161_55 {Ls : Nat} {xs : Nat → Int32} : am_tbl Ls xs 161 55 = some (o_zret) := (m_161 55).trans rfl
theorem m_162 {Ls : Nat} {xs : Nat → Int32} (pc : Nat) : am_tbl Ls xs 162 pc = am_lk (op_X4_clear) pc := rfl
theorem t_162_0 {Ls : Nat} {xs : Nat → Int32} : am_tbl Ls xs 162 0 = some (o_aload 0 1) := (m_162 0).trans rfl
theorem t_162_1 {Ls : Nat} {xs : Nat → Int32} : am_tbl Ls xs 162 1 = some (o_push (.int 0) 1) := (m_162 1).trans rfl
theorem t_162_2 {Ls : Nat} {xs : Nat → Int32} : am_tbl Ls xs 162 2 = some (o_puti 4 3) := (m_162 2).trans rfl
theorem t_162_5 {Ls : Nat} {xs : Nat → Int32} : am_tbl Ls xs 162 5 = some (o_vret) := (m_162 5).trans rfl
theorem m_163 {Ls : Nat} {xs : Nat → Int32} (pc : Nat) : am_tbl Ls xs 163 pc = am_lk (op_X4_first) pc := rfl
theorem t_163_0 {Ls : Nat} {xs : Nat → Int32} : am_tbl Ls xs 163 0 = some (o_iload 1 1) := (m_163 0).trans rfl
theorem t_163_1 {Ls : Nat} {xs : Nat → Int32} : am_tbl Ls xs 163 1 = some (o_if (fun x => decide (x < 0)) 21) := (m_163 1).trans rfl
theorem t_163_4 {Ls : Nat} {xs : Nat → Int32} : am_tbl Ls xs 163 4 = some (o_iload 1 1) := (m_163 4).trans rfl
theorem t_163_5 {Ls : Nat} {xs : Nat → Int32} : am_tbl Ls xs 163 5 = some (o_aload 0 1) := (m_163 5).trans rfl
theorem t_163_6 {Ls : Nat} {xs : Nat → Int32} : am_tbl Ls xs 163 6 = some (o_get 4 3) := (m_163 6).trans rfl
theorem t_163_9 {Ls : Nat} {xs : Nat → Int32} : am_tbl Ls xs 163 9 = some (o_icmp (fun x y => decide (y ≤ x)) 21) := (m_163 9).trans rfl
theorem t_163_12 {Ls : Nat} {xs : Nat → Int32} : am_tbl Ls xs 163 12 = some (o_aload 0 1) := (m_163 12).trans rfl
theorem t_163_13 {Ls : Nat} {xs : Nat → Int32} : am_tbl Ls xs 163 13 = some (o_get 4 0) := (m_163 13).trans rfl
theorem t_163_16 {Ls : Nat} {xs : Nat → Int32} : am_tbl Ls xs 163 16 = some (o_iload 1 1) := (m_163 16).trans rfl
theorem t_163_17 {Ls : Nat} {xs : Nat → Int32} : am_tbl Ls xs 163 17 = some (o_iald 1) := (m_163 17).trans rfl
theorem t_163_18 {Ls : Nat} {xs : Nat → Int32} : am_tbl Ls xs 163 18 = some (o_goto 22) := (m_163 18).trans rfl
theorem t_163_21 {Ls : Nat} {xs : Nat → Int32} : am_tbl Ls xs 163 21 = some (o_nrm [] (o_push (.int (-1)) 1)) := (m_163 21).trans rfl
theorem t_163_22 {Ls : Nat} {xs : Nat → Int32} : am_tbl Ls xs 163 22 = some (o_nrm [] (o_iret)) := (m_163 22).trans rfl
theorem m_164 {Ls : Nat} {xs : Nat → Int32} (pc : Nat) : am_tbl Ls xs 164 pc = am_lk (op_X4_second) pc := rfl
theorem t_164_0 {Ls : Nat} {xs : Nat → Int32} : am_tbl Ls xs 164 0 = some (o_iload 1 1) := (m_164 0).trans rfl
theorem t_164_1 {Ls : Nat} {xs : Nat → Int32} : am_tbl Ls xs 164 1 = some (o_if (fun x => decide (x < 0)) 21) := (m_164 1).trans rfl
theorem t_164_4 {Ls : Nat} {xs : Nat → Int32} : am_tbl Ls xs 164 4 = some (o_iload 1 1) := (m_164 4).trans rfl
theorem t_164_5 {Ls : Nat} {xs : Nat → Int32} : am_tbl Ls xs 164 5 = some (o_aload 0 1) := (m_164 5).trans rfl
theorem t_164_6 {Ls : Nat} {xs : Nat → Int32} : am_tbl Ls xs 164 6 = some (o_get 4 3) := (m_164 6).trans rfl
theorem t_164_9 {Ls : Nat} {xs : Nat → Int32} : am_tbl Ls xs 164 9 = some (o_icmp (fun x y => decide (y ≤ x)) 21) := (m_164 9).trans rfl
theorem t_164_12 {Ls : Nat} {xs : Nat → Int32} : am_tbl Ls xs 164 12 = some (o_aload 0 1) := (m_164 12).trans rfl
theorem t_164_13 {Ls : Nat} {xs : Nat → Int32} : am_tbl Ls xs 164 13 = some (o_get 4 1) := (m_164 13).trans rfl
theorem t_164_16 {Ls : Nat} {xs : Nat → Int32} : am_tbl Ls xs 164 16 = some (o_iload 1 1) := (m_164 16).trans rfl
theorem t_164_17 {Ls : Nat} {xs : Nat → Int32} : am_tbl Ls xs 164 17 = some (o_iald 1) := (m_164 17).trans rfl
theorem t_164_18 {Ls : Nat} {xs : Nat → Int32} : am_tbl Ls xs 164 18 = some (o_goto 22) := (m_164 18).trans rfl
theorem t_164_21 {Ls : Nat} {xs : Nat → Int32} : am_tbl Ls xs 164 21 = some (o_nrm [] (o_push (.int (-1)) 1)) := (m_164 21).trans rfl
theorem t_164_22 {Ls : Nat} {xs : Nat → Int32} : am_tbl Ls xs 164 22 = some (o_nrm [] (o_iret)) := (m_164 22).trans rfl
theorem m_165 {Ls : Nat} {xs : Nat → Int32} (pc : Nat) : am_tbl Ls xs 165 pc = am_lk (op_X4_third) pc := rfl
theorem t_165_0 {Ls : Nat} {xs : Nat → Int32} : am_tbl Ls xs 165 0 = some (o_iload 1 1) := (m_165 0).trans rfl
theorem t_165_1 {Ls : Nat} {xs : Nat → Int32} : am_tbl Ls xs 165 1 = some (o_if (fun x => decide (x < 0)) 21) := (m_165 1).trans rfl
theorem t_165_4 {Ls : Nat} {xs : Nat → Int32} : am_tbl Ls xs 165 4 = some (o_iload 1 1) := (m_165 4).trans rfl
theorem t_165_5 {Ls : Nat} {xs : Nat → Int32} : am_tbl Ls xs 165 5 = some (o_aload 0 1) := (m_165 5).trans rfl
theorem t_165_6 {Ls : Nat} {xs : Nat → Int32} : am_tbl Ls xs 165 6 = some (o_get 4 3) := (m_165 6).trans rfl
theorem t_165_9 {Ls : Nat} {xs : Nat → Int32} : am_tbl Ls xs 165 9 = some (o_icmp (fun x y => decide (y ≤ x)) 21) := (m_165 9).trans rfl
theorem t_165_12 {Ls : Nat} {xs : Nat → Int32} : am_tbl Ls xs 165 12 = some (o_aload 0 1) := (m_165 12).trans rfl
theorem t_165_13 {Ls : Nat} {xs : Nat → Int32} : am_tbl Ls xs 165 13 = some (o_get 4 2) := (m_165 13).trans rfl
theorem t_165_16 {Ls : Nat} {xs : Nat → Int32} : am_tbl Ls xs 165 16 = some (o_iload 1 1) := (m_165 16).trans rfl
theorem t_165_17 {Ls : Nat} {xs : Nat → Int32} : am_tbl Ls xs 165 17 = some (o_iald 1) := (m_165 17).trans rfl
theorem t_165_18 {Ls : Nat} {xs : Nat → Int32} : am_tbl Ls xs 165 18 = some (o_goto 22) := (m_165 18).trans rfl
theorem t_165_21 {Ls : Nat} {xs : Nat → Int32} : am_tbl Ls xs 165 21 = some (o_nrm [] (o_push (.int (-1)) 1)) := (m_165 21).trans rfl
theorem t_165_22 {Ls : Nat} {xs : Nat → Int32} : am_tbl Ls xs 165 22 = some (o_nrm [] (o_iret)) := (m_165 22).trans rfl
