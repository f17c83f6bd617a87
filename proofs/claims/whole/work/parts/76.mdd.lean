/-! THE REFERENCE READS: what each clause takes -/
def TF (Ls : Nat) (xs : Nat → Int32) (T : Nat → Nat) (n : Nat) (g : Vg) (hs gr k km F : Nat) (p : Int32) : Prop := ∀ (I : Nat → Nat → Int32) (J : Nat → Nat → Int64) (v q : Int32), TM T n I → DM g hs gr I → ∃ I', am_ev (am_tbl Ls xs) km (0, [(0, .ref 81)], [], (am_sh, mdM I k (-1) v q, J)) = some (some (.int (nI F)), (am_sh, I', J)) ∧ I' 81 19 = p ∧ frR I I'
def TO (Ls : Nat) (xs : Nat → Int32) (T : Nat → Nat) (n : Nat) (g : Vg) (hs gr k km kE : Nat) (g2 : Vg) (hs2 gr2 : Nat) : Prop := ∀ (I : Nat → Nat → Int32) (J : Nat → Nat → Int64) (v q : Int32), TM T n I → DM g hs gr I → ∃ I' v' q', am_ev (am_tbl Ls xs) km (0, [(0, .ref 81)], [], (am_sh, mdM I k (-1) v q, J)) = some (some (.int 0), (am_sh, mdM I' kE (-1) v' q', J)) ∧ DM g2 hs2 gr2 I' ∧ frR I I'
section
variable {Ls : Nat} {xs : Nat → Int32} {g : Vg} {hs gr : Nat} {I I' I'' : Nat → Nat → Int32} {J : Nat → Nat → Int64} {T : Nat → Nat} {n k : Nat} {P v q : Int32}
theorem dm_house {c t : Nat} (e : ∀ r j, ((r = 81 ∧ 24 < j ∧ j < 38 ∧ j ≠ 27) ∨ (92 ≤ r ∧ r ≤ 98)) ∧ (r ≠ 92 ∨ j ≠ c) → I' r j = I r j) (h1 : I' 81 27 = nI (hs + 1)) (h2 : I' 92 c = nI t) (D : DM g hs gr I) : DM (setH g (fset (gH g) c t)) (hs + 1) gr I' := by
  obtain ⟨⟨a1, a2, a3, a4, a5, a6⟩, b1, b2, b3⟩ := D
  refine ⟨⟨(e _ _ (by omega)).trans a1, (e _ _ (by omega)).trans a2, h1, (e _ _ (by omega)).trans a4, (e _ _ (by omega)).trans a5, (e _ _ (by omega)).trans a6⟩, fun h hh => ⟨(congrArg Int32.toInt (e _ _ (by omega))).trans (b1 h hh).1, (congrArg Int32.toInt (e _ _ (by omega))).trans (b1 h hh).2.1, (e _ _ (by omega)).trans (b1 h hh).2.2.1, (e _ _ (by omega)).trans (b1 h hh).2.2.2⟩, fun p hp => ⟨(e _ _ (by omega)).trans (b2 p hp).1, (e _ _ (by omega)).trans (b2 p hp).2⟩, fun d hd => ?_⟩
  show I' 92 d = nI (fset (gH g) c t d)
  by_cases w : d = c
  · rw [w, fset_eq]; exact h2
  · rw [fset_ne w]; exact (e _ _ (by omega)).trans (b3 d hd)
theorem th_f1 (B : BG g) (hW : 1 ≤ gW g) (hk : k ≤ n) (h1 : nF T n k 0 (gW g - 1) ≠ 0) : TF Ls xs T n g hs gr k 20 (nF T n k 0 (gW g - 1)) (nI (nQ T n k)) := by
  intro I J v q X D
  have fl := nF_le (T := T) (n := n) (k := k) (lo := 0) (hi := gW g - 1)
  have f1 : frR I (am_up2 I 81 27 (nI (hs + 1))) := frR_up (by omega) frR_r
  obtain ⟨I', e, h19, hf⟩ := sp_cellf (Ls := Ls) (xs := xs) (J := J) (P := -1) (v := v) (q := q) (tm_fr f1 X) ((up_ne (by omega)).trans D.1.1) ((up_ne (by omega)).trans D.1.2.1) B hW hk h1
  refine ⟨I', ?_, h19, frR_tr f1 hf⟩
  rw [b_X9_takeHouse_0, mdo (by omega), D.1.2.2.1, nI_1, muo (by omega), e, Option.bind_some, am_k_v, b_X9_takeHouse_14, if_neg (i_le0 h1 (by omega))]
theorem th_f2 (B : BG g) (hW : 1 ≤ gW g) (hk : k ≤ n) (h1 : nF T n k 0 (gW g - 1) = 0) (h2 : nF T n (nK T n k) 0 (gD g - 1) ≠ 0) : TF Ls xs T n g hs gr k 20 (nF T n (nK T n k) 0 (gD g - 1)) (nI (nQ T n (nK T n k))) := by
  intro I J v q X D
  have fl := nF_le (T := T) (n := n) (k := nK T n k) (lo := 0) (hi := gD g - 1)
  have f1 : frR I (am_up2 I 81 27 (nI (hs + 1))) := frR_up (by omega) frR_r
  obtain ⟨I', e, h19, hf⟩ := sp_cellf2 (Ls := Ls) (xs := xs) (J := J) (P := -1) (v := v) (q := q) (tm_fr f1 X) ((up_ne (by omega)).trans D.1.1) ((up_ne (by omega)).trans D.1.2.1) B hW hk h1 h2
  refine ⟨I', ?_, h19, frR_tr f1 hf⟩
  rw [b_X9_takeHouse_0, mdo (by omega), D.1.2.2.1, nI_1, muo (by omega), e, Option.bind_some, am_k_v, b_X9_takeHouse_14, if_neg (i_le0 h2 (by omega))]
theorem cx_lt (B : BG g) (hW : 1 ≤ gW g) (h1 : nF T n k 0 (gW g - 1) = 0) (h2 : nF T n (nK T n k) 0 (gD g - 1) = 0) : cix g (nV T n k) (nV T n (nK T n k)) < gW g * gD g := by
  have b1 := bg_1 B
  have hD : 1 ≤ gD g := by rcases b1.2.2.2.2.2.2 with z | z <;> omega
  have e1 := nF_0 h1
  have e2 := nF_0 h2
  exact cix_lt (by omega) (by omega)
theorem th_14 (X : TM T n I) (D : DM g hs gr I) (B : BG g) (hW : 1 ≤ gW g) (hk : k ≤ n) (h1 : nF T n k 0 (gW g - 1) = 0) (h2 : nF T n (nK T n k) 0 (gD g - 1) = 0) {c : Nat} (hc : c = cix g (nV T n k) (nV T n (nK T n k))) : am_ev (am_tbl Ls xs) 20 (0, [(0, .ref 81)], [], (am_sh, mdM I k P v q, J)) = if 0 < gH g c ∨ anyb (fun p => decide (gA g p = c)) (gP g) = true then am_ev (am_tbl Ls xs) 20 (44, [(0, .ref 81)], [], (am_sh, mdM (am_up2 (am_up2 I 81 27 (nI (hs + 1))) 81 38 (nI c)) (nK T n (nK T n k)) P (nI (nV T n (nK T n k))) (nI (nQ T n (nK T n k))), J)) else (am_ev (am_tbl Ls xs) 16 (0, [(0, .ref 81), (1, .ref 92), (2, .int (nI c)), (3, .int 1), (4, .int 9)], [], (am_sh, mdM (am_up2 (am_up2 I 81 27 (nI (hs + 1))) 81 38 (nI c)) (nK T n (nK T n k)) P (nI (nV T n (nK T n k))) (nI (nQ T n (nK T n k))), J))).bind (am_k (am_tbl Ls xs) 20 69 [(1, .int 0), (0, .ref 81)] []) := by
  have b1 := bg_1 B
  have f1 : frR I (am_up2 I 81 27 (nI (hs + 1))) := frR_up (by omega) frR_r
  have hcl := cx_lt (T := T) (n := n) (k := k) B hW h1 h2
  rw [← hc] at hcl
  have b9 := bg_H B (show c < 48 by omega)
  have hH : mdM (am_up2 (am_up2 I 81 27 (nI (hs + 1))) 81 38 (nI c)) (nK T n (nK T n k)) P (nI (nV T n (nK T n k))) (nI (nQ T n (nK T n k))) 92 c = nI (gH g c) := by
    rw [mdo (by omega), up_ne (by omega), up_ne (by omega)]; exact D.2.2.2 c (by omega)
  have h38 : mdM (am_up2 (am_up2 I 81 27 (nI (hs + 1))) 81 38 (nI c)) (nK T n (nK T n k)) P (nI (nV T n (nK T n k))) (nI (nQ T n (nK T n k))) 81 38 = nI c := by
    rw [mdo (by omega), up_eq]
  rw [b_X9_takeHouse_0, mdo (by omega), D.1.2.2.1, nI_1, muo (by omega), sp_cell0 (tm_fr f1 X) ((up_ne (by omega)).trans D.1.1) ((up_ne (by omega)).trans D.1.2.1) B hW hk h1 h2, Option.bind_some, am_k_v, b_X9_takeHouse_14, if_pos (show (0 : Int32) ≤ 0 by decide), ← hc, h38, if_pos (i_in (by omega) (by omega)), nI_clamp (by omega), hH]
  by_cases w : 0 < gH g c
  · rw [if_pos (show 0 < nI (gH g c) from (n_gt0 (by omega)).mpr w), if_pos (Or.inl w)]
  · rw [if_neg (show ¬ 0 < nI (gH g c) from fun z => w ((n_gt0 (by omega)).mp z)), sp_readP (by rw [mdo (by omega), up_ne (by omega), up_ne (by omega)]; exact D.1.2.2.2.2.1) (fun p hp => by rw [mdo (by omega), up_ne (by omega), up_ne (by omega)]; exact (D.2.2.1 p hp).1) B (show c < 48 by omega), Option.bind_some, am_k_v, b_X9_takeHouse_41]
    cases hb : anyb (fun p => decide (gA g p = c)) (gP g)
    · rw [if_pos (show am_b false = 0 from rfl), if_neg (fun z => z.elim w (fun z => by cases z)), h38]
    · rw [if_neg (show ¬ am_b true = 0 by decide), if_pos (Or.inr rfl)]
theorem th_f4 (B : BG g) (hW : 1 ≤ gW g) (hk : k ≤ n) (h1 : nF T n k 0 (gW g - 1) = 0) (h2 : nF T n (nK T n k) 0 (gD g - 1) = 0) {c : Nat} (hc : c = cix g (nV T n k) (nV T n (nK T n k))) (h3 : 0 < gH g c ∨ anyb (fun p => decide (gA g p = c)) (gP g) = true) : TF Ls xs T n g hs gr k 20 4 (nI (nQ T n (nK T n k))) := by
  intro I J v q X D
  exact ⟨_, by
    rw [th_14 X D B hW hk h1 h2 hc, if_pos h3, b_X9_takeHouse_44, md24, sp_failsM, Option.bind_some, am_k_v, b_X9_takeHouse_53]
    rfl, by
    rfl, by
    exact frR_md (frR_up (by omega) (frR_up (by omega) frR_r))⟩
theorem th_f5 (B : BG g) (hW : 1 ≤ gW g) (hk : k ≤ n) (h1 : nF T n k 0 (gW g - 1) = 0) (h2 : nF T n (nK T n k) 0 (gD g - 1) = 0) {c : Nat} (hc : c = cix g (nV T n k) (nV T n (nK T n k))) (h3 : ¬ (0 < gH g c ∨ anyb (fun p => decide (gA g p = c)) (gP g) = true)) (h4 : nF T n (nK T n (nK T n k)) 1 9 ≠ 0) : TF Ls xs T n g hs gr k 20 (nF T n (nK T n (nK T n k)) 1 9) (nI (nQ T n (nK T n (nK T n k)))) := by
  intro I J v q X D
  have b1 := bg_1 B
  have hcl := cx_lt (T := T) (n := n) (k := k) B hW h1 h2
  rw [← hc] at hcl
  have hk2 := nK_le (T := T) (nK_le (T := T) hk)
  have f1 : frR I (am_up2 (am_up2 I 81 27 (nI (hs + 1))) 81 38 (nI c)) := frR_up (by omega) (frR_up (by omega) frR_r)
  obtain ⟨k', v', q', hk', e⟩ := sp_into92f (Ls := Ls) (xs := xs) (J := J) (P := -1) (v := nI (nV T n (nK T n k))) (q := nI (nQ T n (nK T n k))) (tm_fr f1 X) hk2 (show c < 48 by omega) (lo := 1) (hi := 9) (a := 1) (b := 9) rfl rfl (by omega) (by omega) h4
  exact ⟨_, by
    rw [th_14 X D B hW hk h1 h2 hc, if_neg h3, e, Option.bind_some, am_k_v, b_X9_takeHouse_69], by
    rfl, by
    exact frR_md (frR_up (by omega) f1)⟩
theorem th_o (B : BG g) (hW : 1 ≤ gW g) (hk : k ≤ n) (h1 : nF T n k 0 (gW g - 1) = 0) (h2 : nF T n (nK T n k) 0 (gD g - 1) = 0) {c : Nat} (hc : c = cix g (nV T n k) (nV T n (nK T n k))) (h3 : ¬ (0 < gH g c ∨ anyb (fun p => decide (gA g p = c)) (gP g) = true)) (h4 : nF T n (nK T n (nK T n k)) 1 9 = 0) : TO Ls xs T n g hs gr k 20 (nK T n (nK T n (nK T n k))) (setH g (fset (gH g) c (nV T n (nK T n (nK T n k))))) (hs + 1) gr := by
  intro I J v q X D
  have b1 := bg_1 B
  have hcl := cx_lt (T := T) (n := n) (k := k) B hW h1 h2
  rw [← hc] at hcl
  have hk2 := nK_le (T := T) (nK_le (T := T) hk)
  have f1 : frR I (am_up2 (am_up2 I 81 27 (nI (hs + 1))) 81 38 (nI c)) := frR_up (by omega) (frR_up (by omega) frR_r)
  exact ⟨_, _, _, by
    rw [th_14 X D B hW hk h1 h2 hc, if_neg h3, sp_into92 (tm_fr f1 X) hk2 (show c < 48 by omega) (lo := 1) (hi := 9) (a := 1) (b := 9) rfl rfl (by omega) (by omega) h4, Option.bind_some, am_k_v, b_X9_takeHouse_69], by
    refine dm_house (I := I) (fun r j h => ?_) ?_ up_eq D
    · rw [up_ne (by omega), up_ne (by omega), up_ne (by omega)]
    · rw [up_ne (by omega), up_ne (by omega), up_eq], by
    exact frR_up (by omega) f1⟩
end
