/-! THE REFERENCE READS: the clauses -/
/-- the draft as the reference holds it -/
def DM (g : Vg) (hs gr : Nat) (I : Nat → Nat → Int32) : Prop :=
  (I 81 25 = nI (gW g) ∧ I 81 26 = nI (gD g) ∧ I 81 27 = nI hs ∧ I 81 29 = nI (gN g) ∧ I 81 34 = nI (gP g) ∧ I 81 37 = if gr = 0 then -1 else nI (gr - 1)) ∧
  (∀ h, h < gN g → (I 93 h).toInt = gX g h + 1 ∧ (I 94 h).toInt = gY g h + 1 ∧ I 95 h = nI (gL g h) ∧ I 96 h = nI (gS g h)) ∧
  (∀ p, p < gP g → I 97 p = nI (gA g p) ∧ I 98 p = nI (gT g p)) ∧
  (∀ c, c < 48 → I 92 c = nI (gH g c))
section
variable {Ls : Nat} {xs : Nat → Int32} {g : Vg} {hs gr : Nat} {I I' I'' : Nat → Nat → Int32} {J : Nat → Nat → Int64} {T : Nat → Nat} {n k : Nat} {P v q : Int32}
theorem sp_cell0 (X : TM T n I) (h25 : I 81 25 = nI (gW g)) (h26 : I 81 26 = nI (gD g)) (B : BG g) (hW : 1 ≤ gW g) (hk : k ≤ n) (h1 : nF T n k 0 (gW g - 1) = 0) (h2 : nF T n (nK T n k) 0 (gD g - 1) = 0) : am_ev (am_tbl Ls xs) 18 (0, [(0, .ref 81)], [], (am_sh, mdM I k P v q, J)) = some (some (.int 0), (am_sh, mdM (am_up2 I 81 38 (nI (cix g (nV T n k) (nV T n (nK T n k))))) (nK T n (nK T n k)) P (nI (nV T n (nK T n k))) (nI (nQ T n (nK T n k))), J)) := by
  have b1 := bg_1 B
  have hD : 1 ≤ gD g := by rcases b1.2.2.2.2.2.2 with z | z <;> omega
  have hk1 := nK_le (T := T) hk
  rw [b_X9_takeCell_0, mdo (by omega), h25, show (nI (gW g) - 1) = nI (gW g - 1) by rw [nI_m1, if_pos hW], sp_num0 X hk (lo := 0) (a := 0) rfl rfl (by omega) (by omega) h1, Option.bind_some, am_k_v, b_X9_takeCell_11, if_pos (show (0 : Int32) ≤ 0 by decide), mdo (by omega), h26, show (nI (gD g) - 1) = nI (gD g - 1) by rw [nI_m1, if_pos hD], md23, sp_num0 X hk1 (lo := 0) (a := 0) rfl rfl (by omega) (by omega) h2, Option.bind_some, am_k_v, b_X9_takeCell_36, mdo (by omega), h25, md23, m_cix, muo (by omega)]
theorem i_le0 {f : Nat} (h : f ≠ 0) (h2 : f < 100) : ¬ nI f ≤ 0 := fun z => h ((n_le0 (by omega)).mp z)
theorem i_le0' {w : Nat} (h : 1 ≤ w) (h2 : w < 1000) : ¬ nI w ≤ 0 := fun z => by have := (n_le0 (by omega)).mp z; omega
theorem sp_cellf (X : TM T n I) (h25 : I 81 25 = nI (gW g)) (h26 : I 81 26 = nI (gD g)) (B : BG g) (hW : 1 ≤ gW g) (hk : k ≤ n) (h1 : nF T n k 0 (gW g - 1) ≠ 0) : ∃ I', am_ev (am_tbl Ls xs) 18 (0, [(0, .ref 81)], [], (am_sh, mdM I k P v q, J)) = some (some (.int (nI (nF T n k 0 (gW g - 1)))), (am_sh, I', J)) ∧ I' 81 19 = nI (nQ T n k) ∧ frR I I' := by
  have b1 := bg_1 B
  have fl := nF_le (T := T) (n := n) (k := k) (lo := 0) (hi := gW g - 1)
  obtain ⟨k', v', q', hk', e⟩ := sp_num1 (Ls := Ls) (xs := xs) (J := J) (P := P) (v := v) (q := q) X hk (lo := 0) (a := 0) rfl rfl (by omega) (by omega) h1
  exact ⟨_, by
    rw [b_X9_takeCell_0, mdo (by omega), h25, show (nI (gW g) - 1) = nI (gW g - 1) by rw [nI_m1, if_pos hW]]
    show Option.bind (am_ev (am_tbl Ls xs) 15 (0, [(0, .ref 81), (1, .int 0), (2, .int (nI (gW g - 1)))], [], (am_sh, mdM I k P v q, J))) _ = _
    rw [e, Option.bind_some, am_k_v, b_X9_takeCell_11, if_neg (i_le0 h1 (by omega)), b_X9_takeCell_36_2], by
    exact up_ne (by omega), by
    exact frR_up (by omega) (frR_md frR_r)⟩
theorem sp_cellf2 (X : TM T n I) (h25 : I 81 25 = nI (gW g)) (h26 : I 81 26 = nI (gD g)) (B : BG g) (hW : 1 ≤ gW g) (hk : k ≤ n) (h1 : nF T n k 0 (gW g - 1) = 0) (h2 : nF T n (nK T n k) 0 (gD g - 1) ≠ 0) : ∃ I', am_ev (am_tbl Ls xs) 18 (0, [(0, .ref 81)], [], (am_sh, mdM I k P v q, J)) = some (some (.int (nI (nF T n (nK T n k) 0 (gD g - 1)))), (am_sh, I', J)) ∧ I' 81 19 = nI (nQ T n (nK T n k)) ∧ frR I I' := by
  have b1 := bg_1 B
  have hD : 1 ≤ gD g := by rcases b1.2.2.2.2.2.2 with z | z <;> omega
  have hk1 := nK_le (T := T) hk
  obtain ⟨k', v', q', hk', e⟩ := sp_num1 (Ls := Ls) (xs := xs) (J := J) (P := P) (v := nI (nV T n k)) (q := nI (nQ T n k)) X hk1 (lo := 0) (a := 0) rfl rfl (by omega) (by omega) h2
  exact ⟨_, by
    rw [b_X9_takeCell_0, mdo (by omega), h25, show (nI (gW g) - 1) = nI (gW g - 1) by rw [nI_m1, if_pos hW], sp_num0 X hk (lo := 0) (a := 0) rfl rfl (by omega) (by omega) h1, Option.bind_some, am_k_v, b_X9_takeCell_11, if_pos (show (0 : Int32) ≤ 0 by decide), mdo (by omega), h26, show (nI (gD g) - 1) = nI (gD g - 1) by rw [nI_m1, if_pos hD], md23]
    show Option.bind (am_ev (am_tbl Ls xs) 15 (0, [(0, .ref 81), (1, .int 0), (2, .int (nI (gD g - 1)))], [], (am_sh, mdM I (nK T n k) P (nI (nV T n k)) (nI (nQ T n k)), J))) _ = _
    rw [e, Option.bind_some, am_k_v, b_X9_takeCell_36], by
    exact up_ne (by omega), by
    exact frR_up (by omega) (frR_md frR_r)⟩
theorem sp_readP (h34 : I 81 34 = nI (gP g)) (h97 : ∀ p, p < gP g → I 97 p = nI (gA g p)) (B : BG g) {c : Nat} (hc : c < 48) : am_ev (am_tbl Ls xs) 19 (0, [(0, .ref 81), (1, .int (nI c))], [], (am_sh, I, J)) = some (some (.int (am_b (anyb (fun p => decide (gA g p = c)) (gP g)))), (am_sh, I, J)) := by
  have b1 := bg_1 B
  rw [b_X9_isReadPerson_0]
  refine Eq.trans ?_ ((lp (N := gP g) (f := fun t => am_ev (am_tbl Ls xs) 19 (4, [(0, .ref 81), (1, .int (nI c)), (2, .int (am_b (anyb (fun p => decide (gA g p = c)) t))), (3, .int (nI t))], [], (am_sh, I, J))) ?_).trans ?_)
  · rfl
  · intro t ht
    have b3 := bg_p B ht
    try dsimp only
    rw [b_X9_isReadPerson_4, h34, if_neg (nI_ge ht (by omega)), anyb_s]
    cases hb : anyb (fun p => decide (gA g p = c)) t
    · rw [if_neg (show ¬ am_b false ≠ 0 by decide), if_pos (i_in (by omega) (by omega)), nI_clamp (by omega), h97 t ht, Bool.false_or]
      by_cases e : gA g t = c
      · rw [if_neg (show ¬ nI (gA g t) ≠ nI c from fun z => z (by rw [e])), b_X9_isReadPerson_26, b_X9_isReadPerson_31, i_p1, decide_eq_true e]; rfl
      · rw [if_pos (show nI (gA g t) ≠ nI c from fun z => e ((nI_eq (by omega) (by omega)).mp z)), b_X9_isReadPerson_31, i_p1, decide_eq_false e]; rfl
    · rw [if_pos (show am_b true ≠ 0 by decide), b_X9_isReadPerson_26, b_X9_isReadPerson_31, i_p1, Bool.true_or]; rfl
  · try dsimp only
    rw [b_X9_isReadPerson_4, h34, if_pos (nI_le (Nat.le_refl _) (by omega)), if_pos (am_b01 _)]
/-- a clause's outcome out of the outcome of what it takes -/
theorem sp_out {F : Nat} (hF : F ≠ 0) (hF2 : F < 100) (h19 : I' 81 19 = P) (hf : frR I I') : ∃ I'', am_ev (am_tbl Ls xs) 24 (356, [(0, .ref 81)], [.int (nI F)], (am_sh, I', J)) = some (some (.int (nI F)), (am_sh, I'', J)) ∧ I'' 81 19 = P ∧ frR I I'' :=
  ⟨_, sp_tailf hF hF2, (up_ne (by omega)).trans h19, frR_up (by omega) hf⟩
theorem sp_outE (X : TM T n I) (hk : k ≤ n) (h : eF T n k ≠ 0) : ∃ I'', am_ev (am_tbl Ls xs) 24 (356, [(0, .ref 81)], [.int 0], (am_sh, mdM I k P v q, J)) = some (some (.int (nI (eF T n k))), (am_sh, I'', J)) ∧ I'' 81 19 = nI (nQ T n k) ∧ frR I I'' :=
  ⟨_, by rw [sp_tail1 X hk h, (eF_1 h).1]; rfl, rfl, frR_md frR_r⟩
section
variable {a : Nat} {z : Int32}
/-- which clause, when it isn't full -/
theorem sp_k0 (h : I 81 25 = nI 0) (h22 : I 81 22 = nI k) (e : am_ev (am_tbl Ls xs) 17 (0, [(0, .ref 81)], [], (am_sh, mdM I k P v q, J)) = some (some (.int z), (am_sh, I', J))) : am_ev (am_tbl Ls xs) 24 (185, [(0, .ref 81), (2, .int (nI 0))], [], (am_sh, mdM I a P v q, J)) = am_ev (am_tbl Ls xs) 24 (356, [(0, .ref 81)], [.int z], (am_sh, I', J)) := by
  rw [b_X9_takeClause_185, if_neg (show ¬ nI 0 ≠ 0 from fun z => z rfl), mdo (by omega), h, if_pos (show nI 0 ≤ 0 by decide), b_X9_takeClause_282, if_pos rfl, if_neg (show ¬ nI 0 ≠ 0 from fun z => z rfl), mdo (by omega), h22, mu20, e, Option.bind_some, am_k_v, b_X9_takeClause_313]
theorem sp_k0f {w : Nat} (hw : 1 ≤ w) (hw2 : w < 1000) (h : I 81 25 = nI w) : am_ev (am_tbl Ls xs) 24 (185, [(0, .ref 81), (2, .int (nI 0))], [], (am_sh, mdM I a P v q, J)) = some (some (.int 3), (am_sh, mdM I a (nI a) v q, J)) := by
  rw [b_X9_takeClause_185, if_neg (show ¬ nI 0 ≠ 0 from fun z => z rfl), mdo (by omega), h, if_neg (i_le0' hw hw2), b_X9_takeClause_282, if_neg (show ¬ (1 : Int32) = 0 by decide), md20, sp_failsM, Option.bind_some, am_k_v, b_X9_takeClause_296]
theorem sp_k1 (h : I 81 27 = nI hs) (hh : hs < 15) (h22 : I 81 22 = nI k) (e : am_ev (am_tbl Ls xs) 20 (0, [(0, .ref 81)], [], (am_sh, mdM I k P v q, J)) = some (some (.int z), (am_sh, I', J))) : am_ev (am_tbl Ls xs) 24 (185, [(0, .ref 81), (2, .int (nI 1))], [], (am_sh, mdM I a P v q, J)) = am_ev (am_tbl Ls xs) 24 (356, [(0, .ref 81)], [.int z], (am_sh, I', J)) := by
  rw [b_X9_takeClause_185, if_pos (show nI 1 ≠ 0 by decide), if_neg (show ¬ nI 1 ≠ 1 from fun z => z rfl), mdo (by omega), h, if_pos (show nI hs ≠ 15 from fun z => by have := (nI_eq (b := 15) (by omega) (by omega)).mp z; omega), b_X9_takeClause_282, if_pos rfl, if_pos (show nI 1 ≠ 0 by decide), if_neg (show ¬ nI 1 ≠ 1 from fun z => z rfl), mdo (by omega), h22, mu20, e, Option.bind_some, am_k_v, b_X9_takeClause_325]
theorem sp_k1f (h : I 81 27 = nI hs) (hh : hs = 15) : am_ev (am_tbl Ls xs) 24 (185, [(0, .ref 81), (2, .int (nI 1))], [], (am_sh, mdM I a P v q, J)) = some (some (.int 3), (am_sh, mdM I a (nI a) v q, J)) := by
  rw [b_X9_takeClause_185, if_pos (show nI 1 ≠ 0 by decide), if_neg (show ¬ nI 1 ≠ 1 from fun z => z rfl), mdo (by omega), h, if_neg (show ¬ nI hs ≠ 15 from fun z => z (by rw [hh]; rfl)), b_X9_takeClause_282, if_neg (show ¬ (1 : Int32) = 0 by decide), md20, sp_failsM, Option.bind_some, am_k_v, b_X9_takeClause_296]
theorem sp_k2 (h : I 81 29 = nI (gN g)) (hh : gN g < 6) (h22 : I 81 22 = nI k) (e : am_ev (am_tbl Ls xs) 21 (0, [(0, .ref 81)], [], (am_sh, mdM I k P v q, J)) = some (some (.int z), (am_sh, I', J))) : am_ev (am_tbl Ls xs) 24 (185, [(0, .ref 81), (2, .int (nI 2))], [], (am_sh, mdM I a P v q, J)) = am_ev (am_tbl Ls xs) 24 (356, [(0, .ref 81)], [.int z], (am_sh, I', J)) := by
  rw [b_X9_takeClause_185, if_pos (show nI 2 ≠ 0 by decide), if_pos (show nI 2 ≠ 1 by decide), if_neg (show ¬ nI 2 ≠ 2 from fun z => z rfl), mdo (by omega), h, if_pos (show nI (gN g) ≠ 6 from fun z => by have := (nI_eq (b := 6) (by omega) (by omega)).mp z; omega), b_X9_takeClause_282, if_pos rfl, if_pos (show nI 2 ≠ 0 by decide), if_pos (show nI 2 ≠ 1 by decide), if_neg (show ¬ nI 2 ≠ 2 from fun z => z rfl), mdo (by omega), h22, mu20, e, Option.bind_some, am_k_v, b_X9_takeClause_337]
theorem sp_k2f (h : I 81 29 = nI (gN g)) (hh : gN g = 6) : am_ev (am_tbl Ls xs) 24 (185, [(0, .ref 81), (2, .int (nI 2))], [], (am_sh, mdM I a P v q, J)) = some (some (.int 3), (am_sh, mdM I a (nI a) v q, J)) := by
  rw [b_X9_takeClause_185, if_pos (show nI 2 ≠ 0 by decide), if_pos (show nI 2 ≠ 1 by decide), if_neg (show ¬ nI 2 ≠ 2 from fun z => z rfl), mdo (by omega), h, if_neg (show ¬ nI (gN g) ≠ 6 from fun z => z (by rw [hh]; rfl)), b_X9_takeClause_282, if_neg (show ¬ (1 : Int32) = 0 by decide), md20, sp_failsM, Option.bind_some, am_k_v, b_X9_takeClause_296]
theorem sp_k3 (h : I 81 34 = nI (gP g)) (hh : gP g < 6) (h22 : I 81 22 = nI k) (e : am_ev (am_tbl Ls xs) 22 (0, [(0, .ref 81)], [], (am_sh, mdM I k P v q, J)) = some (some (.int z), (am_sh, I', J))) : am_ev (am_tbl Ls xs) 24 (185, [(0, .ref 81), (2, .int (nI 3))], [], (am_sh, mdM I a P v q, J)) = am_ev (am_tbl Ls xs) 24 (356, [(0, .ref 81)], [.int z], (am_sh, I', J)) := by
  rw [b_X9_takeClause_185, if_pos (show nI 3 ≠ 0 by decide), if_pos (show nI 3 ≠ 1 by decide), if_pos (show nI 3 ≠ 2 by decide), if_neg (show ¬ nI 3 ≠ 3 from fun z => z rfl), mdo (by omega), h, if_pos (show nI (gP g) ≠ 6 from fun z => by have := (nI_eq (b := 6) (by omega) (by omega)).mp z; omega), b_X9_takeClause_282, if_pos rfl, if_pos (show nI 3 ≠ 0 by decide), if_pos (show nI 3 ≠ 1 by decide), if_pos (show nI 3 ≠ 2 by decide), if_neg (show ¬ nI 3 ≠ 3 from fun z => z rfl), mdo (by omega), h22, mu20, e, Option.bind_some, am_k_v, b_X9_takeClause_349]
theorem sp_k3f (h : I 81 34 = nI (gP g)) (hh : gP g = 6) : am_ev (am_tbl Ls xs) 24 (185, [(0, .ref 81), (2, .int (nI 3))], [], (am_sh, mdM I a P v q, J)) = some (some (.int 3), (am_sh, mdM I a (nI a) v q, J)) := by
  rw [b_X9_takeClause_185, if_pos (show nI 3 ≠ 0 by decide), if_pos (show nI 3 ≠ 1 by decide), if_pos (show nI 3 ≠ 2 by decide), if_neg (show ¬ nI 3 ≠ 3 from fun z => z rfl), mdo (by omega), h, if_neg (show ¬ nI (gP g) ≠ 6 from fun z => z (by rw [hh]; rfl)), b_X9_takeClause_282, if_neg (show ¬ (1 : Int32) = 0 by decide), md20, sp_failsM, Option.bind_some, am_k_v, b_X9_takeClause_296]
theorem sp_k4 (h : I 81 37 = -1) (h22 : I 81 22 = nI k) (e : am_ev (am_tbl Ls xs) 23 (0, [(0, .ref 81)], [], (am_sh, mdM I k P v q, J)) = some (some (.int z), (am_sh, I', J))) : am_ev (am_tbl Ls xs) 24 (185, [(0, .ref 81), (2, .int (nI 4))], [], (am_sh, mdM I a P v q, J)) = am_ev (am_tbl Ls xs) 24 (356, [(3, .int 0), (0, .ref 81), (2, .int (nI 4))], [.int z], (am_sh, I', J)) := by
  rw [b_X9_takeClause_185, if_pos (show nI 4 ≠ 0 by decide), if_pos (show nI 4 ≠ 1 by decide), if_pos (show nI 4 ≠ 2 by decide), if_pos (show nI 4 ≠ 3 by decide), mdo (by omega), h, if_pos (show (-1 : Int32) < 0 by decide), b_X9_takeClause_282, if_pos rfl, if_pos (show nI 4 ≠ 0 by decide), if_pos (show nI 4 ≠ 1 by decide), if_pos (show nI 4 ≠ 2 by decide), if_pos (show nI 4 ≠ 3 by decide), mdo (by omega), h22, mu20, e, Option.bind_some, am_k_v]
theorem sp_k4f {w : Nat} (hw : w < 1000) (h : I 81 37 = nI w) : am_ev (am_tbl Ls xs) 24 (185, [(0, .ref 81), (2, .int (nI 4))], [], (am_sh, mdM I a P v q, J)) = some (some (.int 3), (am_sh, mdM I a (nI a) v q, J)) := by
  rw [b_X9_takeClause_185, if_pos (show nI 4 ≠ 0 by decide), if_pos (show nI 4 ≠ 1 by decide), if_pos (show nI 4 ≠ 2 by decide), if_pos (show nI 4 ≠ 3 by decide), mdo (by omega), h, if_neg (nI_pos (by omega)), b_X9_takeClause_282, if_neg (show ¬ (1 : Int32) = 0 by decide), md20, sp_failsM, Option.bind_some, am_k_v, b_X9_takeClause_296]
theorem sp_356 {y z2 : Int32} : am_ev (am_tbl Ls xs) 24 (356, [(3, .int y), (0, .ref 81), (2, .int z2)], [.int z], (am_sh, I, J)) = am_ev (am_tbl Ls xs) 24 (356, [(0, .ref 81)], [.int z], (am_sh, I, J)) := by
  rw [b_X9_takeClause_356, b_X9_takeClause_356_2]
end
end
