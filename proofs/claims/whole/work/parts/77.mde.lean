/-! THE REFERENCE READS: persons, the sun, grey, the ground -/
section
variable {Ls : Nat} {xs : Nat → Int32} {g : Vg} {hs gr : Nat} {I I' I'' : Nat → Nat → Int32} {J : Nat → Nat → Int64} {T : Nat → Nat} {n k : Nat} {P v q : Int32}
theorem tq_f1 (B : BG g) (hW : 1 ≤ gW g) (hk : k ≤ n) (h1 : nF T n k 0 (gW g - 1) ≠ 0) : TF Ls xs T n g hs gr k 22 (nF T n k 0 (gW g - 1)) (nI (nQ T n k)) := by
  intro I J v q X D
  have fl := nF_le (T := T) (n := n) (k := k) (lo := 0) (hi := gW g - 1)
  obtain ⟨I', e, h19, hf⟩ := sp_cellf (Ls := Ls) (xs := xs) (J := J) (P := -1) (v := v) (q := q) X D.1.1 D.1.2.1 B hW hk h1
  refine ⟨I', ?_, h19, hf⟩
  rw [b_X9_takePerson_0, e, Option.bind_some, am_k_v, b_X9_takePerson_4, if_neg (i_le0 h1 (by omega))]
theorem tq_f2 (B : BG g) (hW : 1 ≤ gW g) (hk : k ≤ n) (h1 : nF T n k 0 (gW g - 1) = 0) (h2 : nF T n (nK T n k) 0 (gD g - 1) ≠ 0) : TF Ls xs T n g hs gr k 22 (nF T n (nK T n k) 0 (gD g - 1)) (nI (nQ T n (nK T n k))) := by
  intro I J v q X D
  have fl := nF_le (T := T) (n := n) (k := nK T n k) (lo := 0) (hi := gD g - 1)
  obtain ⟨I', e, h19, hf⟩ := sp_cellf2 (Ls := Ls) (xs := xs) (J := J) (P := -1) (v := v) (q := q) X D.1.1 D.1.2.1 B hW hk h1 h2
  refine ⟨I', ?_, h19, hf⟩
  rw [b_X9_takePerson_0, e, Option.bind_some, am_k_v, b_X9_takePerson_4, if_neg (i_le0 h2 (by omega))]
theorem tq_4 (X : TM T n I) (D : DM g hs gr I) (B : BG g) (hW : 1 ≤ gW g) (hP : gP g < 6) (hk : k ≤ n) (h1 : nF T n k 0 (gW g - 1) = 0) (h2 : nF T n (nK T n k) 0 (gD g - 1) = 0) {c : Nat} (hc : c = cix g (nV T n k) (nV T n (nK T n k))) : am_ev (am_tbl Ls xs) 22 (0, [(0, .ref 81)], [], (am_sh, mdM I k P v q, J)) = if 0 < gH g c then some (some (.int 4), (am_sh, mdM (am_up2 I 81 38 (nI c)) (nK T n (nK T n k)) (nI (nQ T n (nK T n k))) (nI (nV T n (nK T n k))) (nI (nQ T n (nK T n k))), J)) else (am_ev (am_tbl Ls xs) 16 (0, [(0, .ref 81), (1, .ref 98), (2, .int (nI (gP g))), (3, .int 1), (4, .int 9)], [], (am_sh, mdM (am_up2 (am_up2 (am_up2 I 81 38 (nI c)) 97 (gP g) (nI c)) 81 34 (nI (gP g + 1))) (nK T n (nK T n k)) P (nI (nV T n (nK T n k))) (nI (nQ T n (nK T n k))), J))).bind (am_k (am_tbl Ls xs) 22 73 [(1, .int 0), (0, .ref 81)] []) := by
  have b1 := bg_1 B
  have hcl := cx_lt (T := T) (n := n) (k := k) B hW h1 h2
  rw [← hc] at hcl
  have b9 := bg_H B (show c < 48 by omega)
  have hH : mdM (am_up2 I 81 38 (nI c)) (nK T n (nK T n k)) P (nI (nV T n (nK T n k))) (nI (nQ T n (nK T n k))) 92 c = nI (gH g c) := by
    rw [mdo (by omega), up_ne (by omega)]; exact D.2.2.2 c (by omega)
  have h38 : mdM (am_up2 I 81 38 (nI c)) (nK T n (nK T n k)) P (nI (nV T n (nK T n k))) (nI (nQ T n (nK T n k))) 81 38 = nI c := by
    rw [mdo (by omega), up_eq]
  have h34 : mdM (am_up2 I 81 38 (nI c)) (nK T n (nK T n k)) P (nI (nV T n (nK T n k))) (nI (nQ T n (nK T n k))) 81 34 = nI (gP g) := by
    rw [mdo (by omega), up_ne (by omega)]; exact D.1.2.2.2.2.1
  rw [b_X9_takePerson_0, sp_cell0 X D.1.1 D.1.2.1 B hW hk h1 h2, Option.bind_some, am_k_v, b_X9_takePerson_4, if_pos (show (0 : Int32) ≤ 0 by decide), ← hc, h38, if_pos (i_in (by omega) (by omega)), nI_clamp (by omega), hH]
  by_cases w : 0 < gH g c
  · rw [if_pos w, if_neg (show ¬ nI (gH g c) ≤ 0 from fun z => by have := (n_le0 (by omega)).mp z; omega), md24, sp_failsM, Option.bind_some, am_k_v, b_X9_takePerson_32]
  · rw [if_neg w, if_pos (show nI (gH g c) ≤ 0 from (n_le0 (by omega)).mpr (by omega)), h34, if_pos (i_in hP (by omega)), nI_clamp (by omega), up_eq, nI_1, show nI (gP g + 1) - 1 = nI (gP g) by rw [nI_m1, if_pos (by omega)]; rfl, muo (by omega), muo (by omega)]
theorem tq_f4 (B : BG g) (hW : 1 ≤ gW g) (hP : gP g < 6) (hk : k ≤ n) (h1 : nF T n k 0 (gW g - 1) = 0) (h2 : nF T n (nK T n k) 0 (gD g - 1) = 0) {c : Nat} (hc : c = cix g (nV T n k) (nV T n (nK T n k))) (h3 : 0 < gH g c) : TF Ls xs T n g hs gr k 22 4 (nI (nQ T n (nK T n k))) := by
  intro I J v q X D
  exact ⟨_, by
    rw [tq_4 X D B hW hP hk h1 h2 hc, if_pos h3]
    rfl, by
    rfl, by
    exact frR_md (frR_up (by omega) frR_r)⟩
theorem tq_f5 (B : BG g) (hW : 1 ≤ gW g) (hP : gP g < 6) (hk : k ≤ n) (h1 : nF T n k 0 (gW g - 1) = 0) (h2 : nF T n (nK T n k) 0 (gD g - 1) = 0) {c : Nat} (hc : c = cix g (nV T n k) (nV T n (nK T n k))) (h3 : ¬ 0 < gH g c) (h4 : nF T n (nK T n (nK T n k)) 1 9 ≠ 0) : TF Ls xs T n g hs gr k 22 (nF T n (nK T n (nK T n k)) 1 9) (nI (nQ T n (nK T n (nK T n k)))) := by
  intro I J v q X D
  have hk2 := nK_le (T := T) (nK_le (T := T) hk)
  have f1 : frR I (am_up2 (am_up2 (am_up2 I 81 38 (nI c)) 97 (gP g) (nI c)) 81 34 (nI (gP g + 1))) := frR_up (by omega) (frR_up (by omega) (frR_up (by omega) frR_r))
  obtain ⟨k', v', q', hk', e⟩ := sp_into98f (Ls := Ls) (xs := xs) (J := J) (P := -1) (v := nI (nV T n (nK T n k))) (q := nI (nQ T n (nK T n k))) (tm_fr f1 X) hk2 hP (lo := 1) (hi := 9) (a := 1) (b := 9) rfl rfl (by omega) (by omega) h4
  exact ⟨_, by
    rw [tq_4 X D B hW hP hk h1 h2 hc, if_neg h3, e, Option.bind_some, am_k_v, b_X9_takePerson_73], by
    rfl, by
    exact frR_md (frR_up (by omega) f1)⟩
theorem dm_person {c t : Nat} (e : ∀ r j, ((r = 81 ∧ 24 < j ∧ j < 38 ∧ j ≠ 34) ∨ (92 ≤ r ∧ r ≤ 98)) ∧ ((r ≠ 97 ∧ r ≠ 98) ∨ j ≠ gP g) → I' r j = I r j) (h1 : I' 81 34 = nI (gP g + 1)) (h2 : I' 97 (gP g) = nI c) (h3 : I' 98 (gP g) = nI t) (D : DM g hs gr I) : DM (addP g c t) hs gr I' := by
  obtain ⟨⟨a1, a2, a3, a4, a5, a6⟩, b1, b2, b3⟩ := D
  refine ⟨⟨(e _ _ (by omega)).trans a1, (e _ _ (by omega)).trans a2, (e _ _ (by omega)).trans a3, (e _ _ (by omega)).trans a4, h1, (e _ _ (by omega)).trans a6⟩, fun h hh => ⟨(congrArg Int32.toInt (e _ _ (by omega))).trans (b1 h hh).1, (congrArg Int32.toInt (e _ _ (by omega))).trans (b1 h hh).2.1, (e _ _ (by omega)).trans (b1 h hh).2.2.1, (e _ _ (by omega)).trans (b1 h hh).2.2.2⟩, fun p hp => ?_, fun d hd => (e _ _ (by omega)).trans (b3 d hd)⟩
  show I' 97 p = nI (fset (gA g) (gP g) c p) ∧ I' 98 p = nI (fset (gT g) (gP g) t p)
  have hp' : p < gP g + 1 := hp
  by_cases w : p = gP g
  · rw [w, fset_eq, fset_eq]; exact ⟨h2, h3⟩
  · rw [fset_ne w, fset_ne w]
    have := b2 p (by omega)
    exact ⟨(e _ _ (by omega)).trans this.1, (e _ _ (by omega)).trans this.2⟩
theorem tq_o (B : BG g) (hW : 1 ≤ gW g) (hP : gP g < 6) (hk : k ≤ n) (h1 : nF T n k 0 (gW g - 1) = 0) (h2 : nF T n (nK T n k) 0 (gD g - 1) = 0) {c : Nat} (hc : c = cix g (nV T n k) (nV T n (nK T n k))) (h3 : ¬ 0 < gH g c) (h4 : nF T n (nK T n (nK T n k)) 1 9 = 0) : TO Ls xs T n g hs gr k 22 (nK T n (nK T n (nK T n k))) (addP g c (nV T n (nK T n (nK T n k)))) hs gr := by
  intro I J v q X D
  have hk2 := nK_le (T := T) (nK_le (T := T) hk)
  have f1 : frR I (am_up2 (am_up2 (am_up2 I 81 38 (nI c)) 97 (gP g) (nI c)) 81 34 (nI (gP g + 1))) := frR_up (by omega) (frR_up (by omega) (frR_up (by omega) frR_r))
  exact ⟨_, _, _, by
    rw [tq_4 X D B hW hP hk h1 h2 hc, if_neg h3, sp_into98 (tm_fr f1 X) hk2 hP (lo := 1) (hi := 9) (a := 1) (b := 9) rfl rfl (by omega) (by omega) h4, Option.bind_some, am_k_v, b_X9_takePerson_73], by
    refine dm_person (I := I) (fun r j h => ?_) ?_ ?_ up_eq D
    · rw [up_ne (by omega), up_ne (by omega), up_ne (by omega), up_ne (by omega)]
    · rw [up_ne (by omega), up_eq]
    · rw [up_ne (by omega), up_ne (by omega), up_eq], by
    exact frR_up (by omega) f1⟩
theorem n_ne1 {x : Nat} (h : x < 1000) : nI x ≠ 1 ↔ x ≠ 1 := by
  rw [ne_eq, n_eq1 (by omega)]
/-- the sun -/
theorem ts_f1 (hN : gN g < 6) (hk : k ≤ n) (h1 : nF T n k 0 2 ≠ 0) : TF Ls xs T n g hs gr k 21 (nF T n k 0 2) (nI (nQ T n k)) := by
  intro I J v q X D
  have fl := nF_le (T := T) (n := n) (k := k) (lo := 0) (hi := 2)
  have f1 : frR I (am_up2 I 81 29 (nI (gN g + 1))) := frR_up (by omega) frR_r
  obtain ⟨k', v', q', hk', e⟩ := sp_into93f (Ls := Ls) (xs := xs) (J := J) (P := -1) (v := v) (q := q) (tm_fr f1 X) hk hN (lo := 0) (hi := 2) (a := 0) (b := 2) rfl rfl (by omega) (by omega) h1
  exact ⟨_, by
    rw [b_X9_takeSun_0, mdo (by omega), D.1.2.2.2.1, nI_1, muo (by omega), e, Option.bind_some, am_k_v, b_X9_takeSun_26, if_neg (i_le0 h1 (by omega)), b_X9_takeSun_46_2, if_neg (i_le0 h1 (by omega))], by
    rfl, by
    exact frR_md (frR_up (by omega) f1)⟩
theorem ts_26 (X : TM T n I) (D : DM g hs gr I) (hN : gN g < 6) (hk : k ≤ n) (h1 : nF T n k 0 2 = 0) : am_ev (am_tbl Ls xs) 21 (0, [(0, .ref 81)], [], (am_sh, mdM I k P v q, J)) = (am_ev (am_tbl Ls xs) 16 (0, [(0, .ref 81), (1, .ref 94), (2, .int (nI (gN g))), (3, .int 0), (4, .int 2)], [], (am_sh, mdM (am_up2 (am_up2 I 81 29 (nI (gN g + 1))) 93 (gN g) (nI (nV T n k))) (nK T n k) P (nI (nV T n k)) (nI (nQ T n k)), J))).bind (am_k (am_tbl Ls xs) 21 46 [(2, .int 0), (1, .int (nI (gN g))), (0, .ref 81)] []) := by
  have f1 : frR I (am_up2 I 81 29 (nI (gN g + 1))) := frR_up (by omega) frR_r
  rw [b_X9_takeSun_0, mdo (by omega), D.1.2.2.2.1, nI_1, muo (by omega), sp_into93 (tm_fr f1 X) hk hN (lo := 0) (hi := 2) (a := 0) (b := 2) rfl rfl (by omega) (by omega) h1, Option.bind_some, am_k_v, b_X9_takeSun_26, if_pos (show (0 : Int32) ≤ 0 by decide)]
theorem ts_f2 (hN : gN g < 6) (hk : k ≤ n) (h1 : nF T n k 0 2 = 0) (h2 : nF T n (nK T n k) 0 2 ≠ 0) : TF Ls xs T n g hs gr k 21 (nF T n (nK T n k) 0 2) (nI (nQ T n (nK T n k))) := by
  intro I J v q X D
  have fl := nF_le (T := T) (n := n) (k := nK T n k) (lo := 0) (hi := 2)
  have f1 : frR I (am_up2 (am_up2 I 81 29 (nI (gN g + 1))) 93 (gN g) (nI (nV T n k))) := frR_up (by omega) (frR_up (by omega) frR_r)
  obtain ⟨k', v', q', hk', e⟩ := sp_into94f (Ls := Ls) (xs := xs) (J := J) (P := -1) (v := nI (nV T n k)) (q := nI (nQ T n k)) (tm_fr f1 X) (nK_le (T := T) hk) hN (lo := 0) (hi := 2) (a := 0) (b := 2) rfl rfl (by omega) (by omega) h2
  exact ⟨_, by
    rw [ts_26 X D hN hk h1, e, Option.bind_some, am_k_v, b_X9_takeSun_46, if_neg (i_le0 h2 (by omega))], by
    rfl, by
    exact frR_md (frR_up (by omega) f1)⟩
def tsI (I : Nat → Nat → Int32) (N x y : Nat) : Nat → Nat → Int32 := am_up2 (am_up2 (am_up2 I 81 29 (nI (N + 1))) 93 N (nI x)) 94 N (nI y)
theorem frR_ts {N x y : Nat} : frR I (tsI I N x y) := frR_up (by omega) (frR_up (by omega) (frR_up (by omega) frR_r))
theorem ts_46 (X : TM T n I) (D : DM g hs gr I) (hN : gN g < 6) (hk : k ≤ n) (h1 : nF T n k 0 2 = 0) (h2 : nF T n (nK T n k) 0 2 = 0) {x y : Nat} (hx : x = nV T n k) (hy : y = nV T n (nK T n k)) : am_ev (am_tbl Ls xs) 21 (0, [(0, .ref 81)], [], (am_sh, mdM I k P v q, J)) = if x = 1 ∧ y = 1 then some (some (.int 4), (am_sh, mdM (tsI I (gN g) x y) (nK T n (nK T n k)) (nI (nQ T n (nK T n k))) (nI y) (nI (nQ T n (nK T n k))), J)) else am_ev (am_tbl Ls xs) 21 (83, [(0, .ref 81), (1, .int (nI (gN g)))], [], (am_sh, mdM (tsI I (gN g) x y) (nK T n (nK T n k)) P (nI y) (nI (nQ T n (nK T n k))), J)) := by
  have f1 : frR I (am_up2 (am_up2 I 81 29 (nI (gN g + 1))) 93 (gN g) (nI (nV T n k))) := frR_up (by omega) (frR_up (by omega) frR_r)
  have hxl : x < 1000 := by rw [hx]; exact nV_lt
  have hyl : y < 1000 := by rw [hy]; exact nV_lt
  have e93 : mdM (tsI I (gN g) x y) (nK T n (nK T n k)) P (nI y) (nI (nQ T n (nK T n k))) 93 (gN g) = nI x := by
    unfold tsI
    rw [mdo (by omega), up_ne (by omega), up_eq]
  have e94 : mdM (tsI I (gN g) x y) (nK T n (nK T n k)) P (nI y) (nI (nQ T n (nK T n k))) 94 (gN g) = nI y := by
    unfold tsI
    rw [mdo (by omega), up_eq]
  rw [ts_26 X D hN hk h1, sp_into94 (tm_fr f1 X) (nK_le (T := T) hk) hN (lo := 0) (hi := 2) (a := 0) (b := 2) rfl rfl (by omega) (by omega) h2, Option.bind_some, am_k_v, ← hx, ← hy]
  show am_ev (am_tbl Ls xs) 21 (46, [(2, .int 0), (1, .int (nI (gN g))), (0, .ref 81)], [.int 0], (am_sh, mdM (tsI I (gN g) x y) (nK T n (nK T n k)) P (nI y) (nI (nQ T n (nK T n k))), J)) = _
  rw [b_X9_takeSun_46, if_pos (show (0 : Int32) ≤ 0 by decide), if_pos (i_in hN (by omega)), if_pos (i_in hN (by omega)), nI_clamp (by omega), e93, e94]
  by_cases c1 : x = 1
  · rw [if_neg (show ¬ nI x ≠ 1 from fun z => (n_ne1 hxl).mp z c1)]
    by_cases c2 : y = 1
    · rw [if_neg (show ¬ nI y ≠ 1 from fun z => (n_ne1 hyl).mp z c2), if_pos ⟨c1, c2⟩, md24, sp_failsM, Option.bind_some, am_k_v, b_X9_takeSun_82]
    · rw [if_pos (show nI y ≠ 1 from (n_ne1 hyl).mpr c2), if_neg (fun z => c2 z.2)]
  · rw [if_pos (show nI x ≠ 1 from (n_ne1 hxl).mpr c1), if_neg (fun z => c1 z.1)]
theorem ts_f3 (hN : gN g < 6) (hk : k ≤ n) (h1 : nF T n k 0 2 = 0) (h2 : nF T n (nK T n k) 0 2 = 0) (h3 : nV T n k = 1 ∧ nV T n (nK T n k) = 1) : TF Ls xs T n g hs gr k 21 4 (nI (nQ T n (nK T n k))) := by
  intro I J v q X D
  exact ⟨_, by
    rw [ts_46 X D hN hk h1 h2 rfl rfl, if_pos h3]
    rfl, by
    rfl, by
    exact frR_md frR_ts⟩
theorem ts_f4 (hN : gN g < 6) (hk : k ≤ n) (h1 : nF T n k 0 2 = 0) (h2 : nF T n (nK T n k) 0 2 = 0) (h3 : ¬ (nV T n k = 1 ∧ nV T n (nK T n k) = 1)) (h4 : nF T n (nK T n (nK T n k)) 0 3 ≠ 0) : TF Ls xs T n g hs gr k 21 (nF T n (nK T n (nK T n k)) 0 3) (nI (nQ T n (nK T n (nK T n k)))) := by
  intro I J v q X D
  have fl := nF_le (T := T) (n := n) (k := nK T n (nK T n k)) (lo := 0) (hi := 3)
  obtain ⟨k', v', q', hk', e⟩ := sp_into95f (Ls := Ls) (xs := xs) (J := J) (P := -1) (v := nI (nV T n (nK T n k))) (q := nI (nQ T n (nK T n k))) (tm_fr (frR_ts (N := gN g) (x := nV T n k) (y := nV T n (nK T n k))) X) (nK_le (T := T) (nK_le (T := T) hk)) hN (lo := 0) (hi := 3) (a := 0) (b := 3) rfl rfl (by omega) (by omega) h4
  exact ⟨_, by
    rw [ts_46 X D hN hk h1 h2 rfl rfl, if_neg h3, b_X9_takeSun_83, e, Option.bind_some, am_k_v, b_X9_takeSun_94, if_neg (i_le0 h4 (by omega)), b_X9_takeSun_115_2], by
    rfl, by
    exact frR_md (frR_up (by omega) frR_ts)⟩
theorem ts_f5 (hN : gN g < 6) (hk : k ≤ n) (h1 : nF T n k 0 2 = 0) (h2 : nF T n (nK T n k) 0 2 = 0) (h3 : ¬ (nV T n k = 1 ∧ nV T n (nK T n k) = 1)) (h4 : nF T n (nK T n (nK T n k)) 0 3 = 0) (h5 : nF T n (nK T n (nK T n (nK T n k))) 0 20 ≠ 0) : TF Ls xs T n g hs gr k 21 (nF T n (nK T n (nK T n (nK T n k))) 0 20) (nI (nQ T n (nK T n (nK T n (nK T n k))))) := by
  intro I J v q X D
  have fl := nF_le (T := T) (n := n) (k := nK T n (nK T n (nK T n k))) (lo := 0) (hi := 20)
  have f1 : frR I (am_up2 (tsI I (gN g) (nV T n k) (nV T n (nK T n k))) 95 (gN g) (nI (nV T n (nK T n (nK T n k))))) := frR_up (by omega) frR_ts
  obtain ⟨k', v', q', hk', e⟩ := sp_into96f (Ls := Ls) (xs := xs) (J := J) (P := -1) (v := nI (nV T n (nK T n (nK T n k)))) (q := nI (nQ T n (nK T n (nK T n k)))) (tm_fr f1 X) (nK_le (T := T) (nK_le (T := T) (nK_le (T := T) hk))) hN (lo := 0) (hi := 20) (a := 0) (b := 20) rfl rfl (by omega) (by omega) h5
  exact ⟨_, by
    rw [ts_46 X D hN hk h1 h2 rfl rfl, if_neg h3, b_X9_takeSun_83, sp_into95 (tm_fr frR_ts X) (nK_le (T := T) (nK_le (T := T) hk)) hN (lo := 0) (hi := 3) (a := 0) (b := 3) rfl rfl (by omega) (by omega) h4, Option.bind_some, am_k_v, b_X9_takeSun_94, if_pos (show (0 : Int32) ≤ 0 by decide), e, Option.bind_some, am_k_v, b_X9_takeSun_115], by
    rfl, by
    exact frR_md (frR_up (by omega) f1)⟩
theorem dm_sun {x y : Int} {l w : Nat} (e : ∀ r j, ((r = 81 ∧ 24 < j ∧ j < 38 ∧ j ≠ 29) ∨ (92 ≤ r ∧ r ≤ 98)) ∧ ((r ≠ 93 ∧ r ≠ 94 ∧ r ≠ 95 ∧ r ≠ 96) ∨ j ≠ gN g) → I' r j = I r j) (h1 : I' 81 29 = nI (gN g + 1)) (h2 : (I' 93 (gN g)).toInt = x + 1) (h3 : (I' 94 (gN g)).toInt = y + 1) (h4 : I' 95 (gN g) = nI l) (h5 : I' 96 (gN g) = nI w) (D : DM g hs gr I) : DM (addS g x y l w) hs gr I' := by
  obtain ⟨⟨a1, a2, a3, a4, a5, a6⟩, b1, b2, b3⟩ := D
  refine ⟨⟨(e _ _ (by omega)).trans a1, (e _ _ (by omega)).trans a2, (e _ _ (by omega)).trans a3, h1, (e _ _ (by omega)).trans a5, (e _ _ (by omega)).trans a6⟩, fun h hh => ?_, fun p hp => ⟨(e _ _ (by omega)).trans (b2 p hp).1, (e _ _ (by omega)).trans (b2 p hp).2⟩, fun d hd => (e _ _ (by omega)).trans (b3 d hd)⟩
  show (I' 93 h).toInt = fset (gX g) (gN g) x h + 1 ∧ (I' 94 h).toInt = fset (gY g) (gN g) y h + 1 ∧ I' 95 h = nI (fset (gL g) (gN g) l h) ∧ I' 96 h = nI (fset (gS g) (gN g) w h)
  have hh' : h < gN g + 1 := hh
  by_cases z : h = gN g
  · rw [z, fset_eq, fset_eq, fset_eq, fset_eq]; exact ⟨h2, h3, h4, h5⟩
  · rw [fset_ne z, fset_ne z, fset_ne z, fset_ne z]
    have := b1 h (by omega)
    exact ⟨(congrArg Int32.toInt (e _ _ (by omega))).trans this.1, (congrArg Int32.toInt (e _ _ (by omega))).trans this.2.1, (e _ _ (by omega)).trans this.2.2.1, (e _ _ (by omega)).trans this.2.2.2⟩
theorem ts_o (hN : gN g < 6) (hk : k ≤ n) (h1 : nF T n k 0 2 = 0) (h2 : nF T n (nK T n k) 0 2 = 0) (h3 : ¬ (nV T n k = 1 ∧ nV T n (nK T n k) = 1)) (h4 : nF T n (nK T n (nK T n k)) 0 3 = 0) (h5 : nF T n (nK T n (nK T n (nK T n k))) 0 20 = 0) : TO Ls xs T n g hs gr k 21 (nK T n (nK T n (nK T n (nK T n k)))) (addS g ((nV T n k : Int) - 1) ((nV T n (nK T n k) : Int) - 1) (nV T n (nK T n (nK T n k))) (nV T n (nK T n (nK T n (nK T n k))))) hs gr := by
  intro I J v q X D
  have hxl := nV_lt (T := T) (n := n) (k := k)
  have hyl := nV_lt (T := T) (n := n) (k := nK T n k)
  have f1 : frR I (am_up2 (tsI I (gN g) (nV T n k) (nV T n (nK T n k))) 95 (gN g) (nI (nV T n (nK T n (nK T n k))))) := frR_up (by omega) frR_ts
  exact ⟨_, _, _, by
    rw [ts_46 X D hN hk h1 h2 rfl rfl, if_neg h3, b_X9_takeSun_83, sp_into95 (tm_fr frR_ts X) (nK_le (T := T) (nK_le (T := T) hk)) hN (lo := 0) (hi := 3) (a := 0) (b := 3) rfl rfl (by omega) (by omega) h4, Option.bind_some, am_k_v, b_X9_takeSun_94, if_pos (show (0 : Int32) ≤ 0 by decide), sp_into96 (tm_fr f1 X) (nK_le (T := T) (nK_le (T := T) (nK_le (T := T) hk))) hN (lo := 0) (hi := 20) (a := 0) (b := 20) rfl rfl (by omega) (by omega) h5, Option.bind_some, am_k_v, b_X9_takeSun_115], by
    unfold tsI
    refine dm_sun (I := I) (fun r j h => ?_) ?_ ?_ ?_ ?_ up_eq D
    · rw [up_ne (by omega), up_ne (by omega), up_ne (by omega), up_ne (by omega), up_ne (by omega)]
    · rw [up_ne (by omega), up_ne (by omega), up_ne (by omega), up_ne (by omega), up_eq]
    · rw [up_ne (by omega), up_ne (by omega), up_ne (by omega), up_eq, nI_toInt (by omega)]; omega
    · rw [up_ne (by omega), up_ne (by omega), up_eq, nI_toInt (by omega)]; omega
    · rw [up_ne (by omega), up_eq], by
    exact frR_up (by omega) f1⟩
/-- grey -/
theorem tg_f1 (hk : k ≤ n) (h1 : nF T n k 0 100 ≠ 0) : TF Ls xs T n g hs gr k 23 (nF T n k 0 100) (nI (nQ T n k)) := by
  intro I J v q X D
  obtain ⟨k', v', q', hk', e⟩ := sp_num1 (Ls := Ls) (xs := xs) (J := J) (P := -1) (v := v) (q := q) X hk (lo := 0) (hi := 100) (a := 0) (b := 100) rfl rfl (by omega) (by omega) h1
  exact ⟨_, by
    rw [b_X9_takeGrey_0, e, Option.bind_some, am_k_v, b_X9_takeGrey_7], by
    exact up_ne (by omega), by
    exact frR_up (by omega) (frR_md frR_r)⟩
theorem tg_o (hk : k ≤ n) (h1 : nF T n k 0 100 = 0) : TO Ls xs T n g hs gr k 23 (nK T n k) g hs (nV T n k + 1) := by
  intro I J v q X D
  exact ⟨_, _, _, by
    rw [b_X9_takeGrey_0, sp_num0 X hk (lo := 0) (hi := 100) (a := 0) (b := 100) rfl rfl (by omega) (by omega) h1, Option.bind_some, am_k_v, b_X9_takeGrey_7, md23, muo (by omega)], by
    obtain ⟨⟨a1, a2, a3, a4, a5, a6⟩, b1, b2, b3⟩ := D
    exact ⟨⟨(up_ne (by omega)).trans a1, (up_ne (by omega)).trans a2, (up_ne (by omega)).trans a3, (up_ne (by omega)).trans a4, (up_ne (by omega)).trans a5, up_eq⟩, fun h hh => ⟨(congrArg Int32.toInt (up_ne (by omega))).trans (b1 h hh).1, (congrArg Int32.toInt (up_ne (by omega))).trans (b1 h hh).2.1, (up_ne (by omega)).trans (b1 h hh).2.2.1, (up_ne (by omega)).trans (b1 h hh).2.2.2⟩, fun p hp => ⟨(up_ne (by omega)).trans (b2 p hp).1, (up_ne (by omega)).trans (b2 p hp).2⟩, fun d hd => (up_ne (by omega)).trans (b3 d hd)⟩, by
    exact frR_up (by omega) frR_r⟩
/-- the ground -/
theorem tr_f1 (hk : k ≤ n) (h1 : nF T n k 1 9 ≠ 0) : TF Ls xs T n g hs gr k 17 (nF T n k 1 9) (nI (nQ T n k)) := by
  intro I J v q X D
  have fl := nF_le (T := T) (n := n) (k := k) (lo := 1) (hi := 9)
  obtain ⟨k', v', q', hk', e⟩ := sp_num1 (Ls := Ls) (xs := xs) (J := J) (P := -1) (v := v) (q := q) X hk (lo := 1) (hi := 9) (a := 1) (b := 9) rfl rfl (by omega) (by omega) h1
  exact ⟨_, by
    rw [b_X9_takeGround_0, e, Option.bind_some, am_k_v, b_X9_takeGround_7, if_neg (i_le0 h1 (by omega)), b_X9_takeGround_28_2, if_neg (i_le0 h1 (by omega))], by
    rfl, by
    exact frR_md frR_r⟩
theorem tr_f2 (hk : k ≤ n) (h1 : nF T n k 1 9 = 0) (h2 : nF T n (nK T n k) 1 9 ≠ 0) : TF Ls xs T n g hs gr k 17 (nF T n (nK T n k) 1 9) (nI (nQ T n (nK T n k))) := by
  intro I J v q X D
  have fl := nF_le (T := T) (n := n) (k := nK T n k) (lo := 1) (hi := 9)
  obtain ⟨k', v', q', hk', e⟩ := sp_num1 (Ls := Ls) (xs := xs) (J := J) (P := -1) (v := nI (nV T n k)) (q := nI (nQ T n k)) X (nK_le (T := T) hk) (lo := 1) (hi := 9) (a := 1) (b := 9) rfl rfl (by omega) (by omega) h2
  exact ⟨_, by
    rw [b_X9_takeGround_0, sp_num0 X hk (lo := 1) (hi := 9) (a := 1) (b := 9) rfl rfl (by omega) (by omega) h1, Option.bind_some, am_k_v, b_X9_takeGround_7, if_pos (show (0 : Int32) ≤ 0 by decide), e, Option.bind_some, am_k_v, b_X9_takeGround_28, if_neg (i_le0 h2 (by omega))], by
    rfl, by
    exact frR_md frR_r⟩
theorem tr_28 (X : TM T n I) (hk : k ≤ n) (h1 : nF T n k 1 9 = 0) (h2 : nF T n (nK T n k) 1 9 = 0) : am_ev (am_tbl Ls xs) 17 (0, [(0, .ref 81)], [], (am_sh, mdM I k P v q, J)) = if nV T n k * nV T n (nK T n k) ≤ 48 then some (some (.int 0), (am_sh, mdM (am_up2 (am_up2 I 81 25 (nI (nV T n k))) 81 26 (nI (nV T n (nK T n k)))) (nK T n (nK T n k)) P (nI (nV T n (nK T n k))) (nI (nQ T n (nK T n k))), J)) else some (some (.int 2), (am_sh, mdM I (nK T n (nK T n k)) (nI (nQ T n (nK T n k))) (nI (nV T n (nK T n k))) (nI (nQ T n (nK T n k))), J)) := by
  have e1 := nF_0 h1
  have e2 := nF_0 h2
  have hwh : nV T n k * nV T n (nK T n k) ≤ 9 * 9 := Nat.mul_le_mul e1.2.2.2 e2.2.2.2
  rw [b_X9_takeGround_0, sp_num0 X hk (lo := 1) (hi := 9) (a := 1) (b := 9) rfl rfl (by omega) (by omega) h1, Option.bind_some, am_k_v, b_X9_takeGround_7, if_pos (show (0 : Int32) ≤ 0 by decide), md23, sp_num0 X (nK_le (T := T) hk) (lo := 1) (hi := 9) (a := 1) (b := 9) rfl rfl (by omega) (by omega) h2, Option.bind_some, am_k_v, b_X9_takeGround_28, if_pos (show (0 : Int32) ≤ 0 by decide), md23, md24, pk_mul]
  by_cases c : nV T n k * nV T n (nK T n k) ≤ 48
  · rw [if_pos c, if_pos (show nI (nV T n k * nV T n (nK T n k)) ≤ 48 from nI_le (b := 48) c (by omega)), muo (by omega), muo (by omega)]
  · rw [if_neg c, if_neg (show ¬ nI (nV T n k * nV T n (nK T n k)) ≤ 48 from nI_ge (a := 48) (by omega) (by omega)), sp_failsM, Option.bind_some, am_k_v, b_X9_takeGround_55]
theorem tr_f3 (hk : k ≤ n) (h1 : nF T n k 1 9 = 0) (h2 : nF T n (nK T n k) 1 9 = 0) (h3 : ¬ nV T n k * nV T n (nK T n k) ≤ 48) : TF Ls xs T n g hs gr k 17 2 (nI (nQ T n (nK T n k))) := by
  intro I J v q X D
  exact ⟨_, by
    rw [tr_28 X hk h1 h2, if_neg h3]
    rfl, by
    rfl, by
    exact frR_md frR_r⟩
theorem tr_o (hN : gN g = 0) (hP : gP g = 0) (hk : k ≤ n) (h1 : nF T n k 1 9 = 0) (h2 : nF T n (nK T n k) 1 9 = 0) (h3 : nV T n k * nV T n (nK T n k) ≤ 48) : TO Ls xs T n g hs gr k 17 (nK T n (nK T n k)) (setWD g (nV T n k) (nV T n (nK T n k))) hs gr := by
  intro I J v q X D
  exact ⟨_, _, _, by
    rw [tr_28 X hk h1 h2, if_pos h3], by
    obtain ⟨⟨a1, a2, a3, a4, a5, a6⟩, b1, b2, b3⟩ := D
    refine ⟨⟨(up_ne (by omega)).trans up_eq, up_eq, ?_, ?_, ?_, ?_⟩, fun h hh => ?_, fun p hp => ?_, fun d hd => ?_⟩
    · rw [up_ne (by omega), up_ne (by omega)]; exact a3
    · rw [up_ne (by omega), up_ne (by omega)]; exact a4
    · rw [up_ne (by omega), up_ne (by omega)]; exact a5
    · rw [up_ne (by omega), up_ne (by omega)]; exact a6
    · have hh' : h < gN g := hh
      omega
    · have hp' : p < gP g := hp
      omega
    · rw [up_ne (by omega), up_ne (by omega)]; exact b3 d hd, by
    exact frR_up (by omega) (frR_up (by omega) frR_r)⟩
end
