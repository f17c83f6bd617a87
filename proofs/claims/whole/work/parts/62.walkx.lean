/-! WALKS: the class -/
def oF : Option Nat → Int32
  | none => 1000000000
  | some v => nI v
theorem oF_lt {v : Nat} (hv : v ≤ 100000) : ¬ (1000000000 : Int32) ≤ nI v := by
  rw [i_leN, nI_toInt (by omega), show (1000000000 : Int32).toInt = 1000000000 from rfl]; omega
theorem oF_ne {v : Nat} (hv : v ≤ 100000) : nI v ≠ (1000000000 : Int32) := fun q => by
  have := congrArg Int32.toInt q
  rw [nI_toInt (by omega), show (1000000000 : Int32).toInt = 1000000000 from rfl] at this; omega
/-- the row of hour h holds what is owed from there on -/
def LX (g : Vg) (R : Nat → Option Nat) (h : Nat) (I : Nat → Nat → Int32) : Prop := (∀ c, c < gW g * gD g → I (66 + h) c = oF (R c)) ∧ ∀ c v, R c = some v → v ≤ 100000
theorem i_pm (k : Nat) : nI k - 1 + Int32.ofInt 1 = nI (k + 1) - 1 := by
  rw [show Int32.ofInt 1 = (1 : Int32) from rfl, ← nI_1]
  rw [Int32.sub_eq_add_neg, Int32.sub_eq_add_neg, Int32.add_assoc, Int32.add_assoc, Int32.add_comm 1]
theorem i_1lt {k : Nat} (h : k < 1000) : (1 < nI k - 1) = (2 < k) := by
  rw [i_ltN, i_sub (by rw [nI_toInt (by omega), i_1]; omega) (by rw [nI_toInt (by omega), i_1]; omega), nI_toInt (by omega), i_1]
  simp
  omega
theorem i_nb {a j : Nat} (h : 1 ≤ a + j) : nI a + (nI j - 1) = nI (a + j - 1) := by
  rw [Int32.sub_eq_add_neg, ← Int32.add_assoc, nI_add]
  obtain ⟨m, hm⟩ : ∃ m, a + j = m + 1 := ⟨a + j - 1, by omega⟩
  rw [hm, pk_m1]
  rfl
theorem i_nb0 : nI 0 + (nI 0 - 1) = -1 := by decide
theorem rng_m1 {n : Nat} : rng n (-1) = false := decide_eq_false (fun q => q.1 (by decide))
theorem rng_big {n m : Nat} (h : n ≤ m ∧ m < 2147483648) : rng n (nI m) = false := decide_eq_false (fun q => q.2 (nI_le h.1 (by omega)))
section
variable {Ls : Nat} {xs : Nat → Int32} {g : Vg} {r : Vr} {I I' : Nat → Nat → Int32} {J : Nat → Nat → Int64}
theorem sx_cellNb (X : RX g I) (B : BG g) {c i j : Nat} (hc : c < gW g * gD g) (hi : i < 3) (hj : j < 3) : am_ev (am_tbl Ls xs) 137 (0, [(0, .ref 18), (1, .int (nI (c % gW g) + (nI j - 1))), (2, .int (nI (c / gW g) + (nI i - 1)))], [], (am_sh, I, J)) = some (some (.int ((if (1 ≤ c % gW g + j ∧ c % gW g + j ≤ gW g) ∧ 1 ≤ c / gW g + i ∧ c / gW g + i ≤ gD g then nI (cix g (c % gW g + j - 1) (c / gW g + i - 1)) else -1))), (am_sh, I, J)) := by
  have b1 := bg_1 B
  have hW : 0 < gW g := by
    rcases b1.2.2.2.2.2.2 with q | q
    · rw [q.1, Nat.zero_mul] at hc; omega
    · omega
  have hm := Nat.mod_lt c hW
  have hd : c / gW g < gD g := Nat.div_lt_of_lt_mul hc
  generalize c % gW g = x at hm ⊢
  generalize c / gW g = y at hd ⊢
  by_cases hx : 1 ≤ x + j ∧ x + j ≤ gW g
  · by_cases hy : 1 ≤ y + i ∧ y + i ≤ gD g
    · rw [if_pos ⟨hx, hy⟩, i_nb hx.1, i_nb hy.1, sx_cellAtT X B (by omega) (by omega)]
    · rw [if_neg (fun q => hy q.2)]
      refine sx_cellAtF X B (Or.inr ?_)
      by_cases h0 : 1 ≤ y + i
      · rw [i_nb h0]; exact rng_big (by omega)
      · rw [show y = 0 by omega, show i = 0 by omega, i_nb0]; exact rng_m1
  · rw [if_neg (fun q => hx q.1)]
    refine sx_cellAtF X B (Or.inl ?_)
    by_cases h0 : 1 ≤ x + j
    · rw [i_nb h0]; exact rng_big (by omega)
    · rw [show x = 0 by omega, show j = 0 by omega, i_nb0]; exact rng_m1
theorem sx_next (X : RX g I) (B : BG g) {R : Nat → Option Nat} {c h : Nat} (hc : c < gW g * gD g) (hh : h < gN g) (hL : LX g R h I) : am_ev (am_tbl Ls xs) 191 (0, [(0, .ref 64), (1, .int (nI c)), (2, .int (nI h))], [], (am_sh, I, J)) = some (some (.int (oI (bsW g R c))), (am_sh, I, J)) := by
  have b1 := bg_1 B
  have hW : 0 < gW g := by
    rcases b1.2.2.2.2.2.2 with q | q
    · rw [q.1, Nat.zero_mul] at hc; omega
    · omega
  have hf : ∀ k y, fls (QW g R c k) (fun t => (R t).getD 0) (gW g * gD g) = some y → y < gW g * gD g ∧ (R y).getD 0 ≤ 100000 := fun k y hy => by
    refine ⟨(fls_lt hy).1, ?_⟩
    cases hv : R y with
    | none => exact Nat.zero_le _
    | some v => exact hL.2 y v hv
  simp (disch := omega) only [b_X7_bestNext_0, b_X7_bestNext_14, Option.bind_some, am_k_v, am_k_n, ↓n_in, nI_clamp, i_p1, nI_leI, nI_ltI, nI_eq, n_lt0, n_le0, n_eq0, n_gt0, n_lm, n_em, n_me, n_mlt, false_or, or_false, true_or, or_true, false_and, and_false, true_and, and_true, not_false_eq_true, not_true_eq_false, if_true, if_false, if_pos, if_neg, am_b01, am_b0, am_b1, ne_eq, eq_self, reduceCtorEq, rng_t, Bool.and_true, Bool.and_false, Bool.true_and, Bool.false_and, ite_rgI, if_pos rfl, sx_cellA X]
  refine Eq.trans ?_ ((lp (N := 3) (f := fun i => am_ev (am_tbl Ls xs) 191 (22, [(0, .ref 64), (1, .int (nI c)), (2, .int (nI h)), (3, .int (oI (fls (QW g R c (3 * i)) (fun t => (R t).getD 0) (gW g * gD g)))), (4, .int (lvI 1000000000 (fun t => (R t).getD 0) (fls (QW g R c (3 * i)) (fun t => (R t).getD 0) (gW g * gD g)))), (5, .int (nI i - 1))], [], (am_sh, I, J))) ?_).trans ?_)
  · try dsimp only
    rw [Nat.mul_zero, QW_0]; rfl
  · intro i hi
    try dsimp only
    rw [b_X7_bestNext_22, if_neg (by rw [i_1lt (by omega)]; omega)]
    refine Eq.trans ?_ ((lp (N := 3) (f := fun j => am_ev (am_tbl Ls xs) 191 (31, [(0, .ref 64), (1, .int (nI c)), (2, .int (nI h)), (3, .int (oI (fls (QW g R c (3 * i + j)) (fun t => (R t).getD 0) (gW g * gD g)))), (4, .int (lvI 1000000000 (fun t => (R t).getD 0) (fls (QW g R c (3 * i + j)) (fun t => (R t).getD 0) (gW g * gD g)))), (5, .int (nI i - 1)), (6, .int (nI j - 1))], [], (am_sh, I, J))) ?_).trans ?_)
    · rfl
    · intro j hj
      try dsimp only
      rw [b_X7_bestNext_31, if_neg (by rw [i_1lt (by omega)]; omega), sx_columnOf X B hc, Option.bind_some, am_k_v, b_X7_bestNext_49, sx_lineOf X B hc, Option.bind_some, am_k_v, b_X7_bestNext_60, sx_cellNb X B hc hi hj, Option.bind_some, am_k_v, b_X7_bestNext_66, show 3 * i + (j + 1) = 3 * i + j + 1 from rfl, QW_step (g := g) (R := R) (c := c) (f := fun t => (R t).getD 0) hW hi hj]
      have hfk := hf (3 * i + j)
      generalize hF : fls (QW g R c (3 * i + j)) (fun t => (R t).getD 0) (gW g * gD g) = F at hfk ⊢
      by_cases hin : (1 ≤ c % gW g + j ∧ c % gW g + j ≤ gW g) ∧ 1 ≤ c / gW g + i ∧ c / gW g + i ≤ gD g
      · rw [if_pos hin, if_pos hin]
        have ht := cix_lt (g := g) (show c % gW g + j - 1 < gW g by omega) (show c / gW g + i - 1 < gD g by omega)
        generalize cix g (c % gW g + j - 1) (c / gW g + i - 1) = t at ht ⊢
        have hLt := hL.1 t ht
        simp (disch := omega) only [Option.bind_some, am_k_v, am_k_n, ↓n_in, nI_clamp, i_p1, nI_leI, nI_ltI, nI_eq, n_lt0, n_le0, n_eq0, n_gt0, n_lm, n_em, n_me, n_mlt, false_or, or_false, true_or, or_true, false_and, and_false, true_and, and_true, not_false_eq_true, not_true_eq_false, if_true, if_false, if_pos, if_neg, am_b01, am_b0, am_b1, ne_eq, eq_self, reduceCtorEq, rng_t, Bool.and_true, Bool.and_false, Bool.true_and, Bool.false_and, ite_rgI, if_pos rfl, sx_cellA X, sx_hourA X, b_X7_bestNext_77, b_X7_bestNext_88, hLt]
        cases hv : R t with
        | none =>
          rw [if_neg (show ¬ isS (none : Option Nat) = true by simp [isS])]
          have : lvI 1000000000 (fun t => (R t).getD 0) F ≤ oF none := by
            cases F with
            | none => exact (i_leN _ _).mpr (Int.le_refl _)
            | some y =>
              have hy := hfk y rfl
              show nI ((R y).getD 0) ≤ 1000000000
              rw [i_leN, nI_toInt (by omega), show (1000000000 : Int32).toInt = 1000000000 from rfl]; omega
          rw [if_pos this, b_X7_bestNext_119, i_pm]
        | some v =>
          have hv2 := hL.2 t v hv
          rw [if_pos (show isS (some v) = true from rfl)]
          cases F with
          | none =>
            rw [if_neg (show ¬ lvI 1000000000 (fun t => (R t).getD 0) none ≤ oF (some v) from oF_lt hv2), b_X7_bestNext_119, i_pm]
            show _ = am_ev (am_tbl Ls xs) 191 (31, [(0, .ref 64), (1, .int (nI c)), (2, .int (nI h)), (3, .int (nI t)), (4, .int (nI ((R t).getD 0))), (5, .int (nI i - 1)), (6, .int (nI (j + 1) - 1))], [], (am_sh, I, J))
            rw [hv]; rfl
          | some y =>
            have hy := hfk y rfl
            dsimp only
            rw [show lvI 1000000000 (fun t => (R t).getD 0) (some y) = nI ((R y).getD 0) from rfl, show oF (some v) = nI v from rfl]
            have e : (R t).getD 0 = v := by rw [hv]; rfl
            by_cases h1 : v < (R y).getD 0
            · rw [if_neg (nI_ge h1 (by omega)), if_pos (show (some v).getD 0 < (R y).getD 0 from h1), b_X7_bestNext_119, i_pm]
              show _ = am_ev (am_tbl Ls xs) 191 (31, [(0, .ref 64), (1, .int (nI c)), (2, .int (nI h)), (3, .int (nI t)), (4, .int (nI ((R t).getD 0))), (5, .int (nI i - 1)), (6, .int (nI (j + 1) - 1))], [], (am_sh, I, J))
              rw [hv]; rfl
            · rw [if_pos (nI_le (by omega) (by omega)), if_neg (show ¬ (some v).getD 0 < (R y).getD 0 from h1), b_X7_bestNext_119, i_pm]
              rfl
      · rw [if_neg hin, if_neg hin]
        simp (disch := omega) only [Option.bind_some, am_k_v, am_k_n, ↓n_in, nI_clamp, i_p1, nI_leI, nI_ltI, nI_eq, n_lt0, n_le0, n_eq0, n_gt0, n_lm, n_em, n_me, n_mlt, false_or, or_false, true_or, or_true, false_and, and_false, true_and, and_true, not_false_eq_true, not_true_eq_false, if_true, if_false, if_pos, if_neg, am_b01, am_b0, am_b1, ne_eq, eq_self, reduceCtorEq, rng_t, Bool.and_true, Bool.and_false, Bool.true_and, Bool.false_and, ite_rgI, if_pos rfl, sx_cellA X, rng_m1, b_X7_bestNext_77, b_X7_bestNext_119, i_pm]
    · try dsimp only
      rw [b_X7_bestNext_31, if_pos (by rw [i_1lt (by omega)]; omega), i_pm, show 3 * (i + 1) = 3 * i + 3 by omega]
  · try dsimp only
    rw [b_X7_bestNext_22, if_pos (by rw [i_1lt (by omega)]; omega), QW_9]
theorem sx_mayOn (X : RX g I) (B : BG g) (XQ : QX g r I) (Q : BQ g r) {p c h : Nat} (hp : p < gP g) (hc : c < gW g * gD g) (hh : h < gN g) : am_ev (am_tbl Ls xs) 190 (0, [(0, .ref 64), (1, .int (nI p)), (2, .int (nI c)), (3, .int (nI h))], [], (am_sh, I, J)) = some (some (.int (am_b (okW g r p c h))), (am_sh, I, J)) := by
  have b1 := bg_1 B
  have b3 := bg_H B (show c < 48 by omega)
  have q1 := Q.1
  simp (disch := omega) only [b_X7_mayBeOn_0, b_X7_mayBeOn_8, b_X7_mayBeOn_23, Option.bind_some, am_k_v, am_k_n, ↓n_in, nI_clamp, i_p1, nI_leI, nI_ltI, nI_eq, n_lt0, n_le0, n_eq0, n_gt0, n_lm, n_em, n_me, n_mlt, false_or, or_false, true_or, or_true, false_and, and_false, true_and, and_true, not_false_eq_true, not_true_eq_false, if_true, if_false, if_pos, if_neg, am_b01, am_b0, am_b1, ne_eq, eq_self, reduceCtorEq, rng_t, Bool.and_true, Bool.and_false, Bool.true_and, Bool.false_and, ite_rgI, if_pos rfl, sx_hasCell' X B, decide_eq_false_iff_not, rx_H X]
  unfold okW
  by_cases h0 : gH g c = 0
  · rw [if_pos h0, decide_eq_true h0, Bool.true_and]
    unfold doE
    generalize hf : (fun k => !(decide (eP r k = p) && decide (eH r k = h)) || decide (eC r k = c)) = f
    have hfk : ∀ k, f k = (!(decide (eP r k = p) && decide (eH r k = h)) || decide (eC r k = c)) := fun k => by rw [← hf]
    have hd : ∀ k, k < eN r → am_ev (am_tbl Ls xs) 190 (28, [(0, .ref 64), (1, .int (nI p)), (2, .int (nI c)), (3, .int (nI h)), (4, .int (nI k))], [], (am_sh, I, J)) = if f k = true then am_ev (am_tbl Ls xs) 190 (28, [(0, .ref 64), (1, .int (nI p)), (2, .int (nI c)), (3, .int (nI h)), (4, .int (nI (k + 1)))], [], (am_sh, I, J)) else some (some (.int 0), (am_sh, I, J)) := by
      intro k hk
      have q2 := Q.2.2.1 k hk
      have e1 := XQ.2.2.1 k hk
      rw [b_X7_mayBeOn_28]
      simp (disch := omega) only [Option.bind_some, am_k_v, am_k_n, ↓n_in, nI_clamp, i_p1, nI_leI, nI_ltI, nI_eq, n_lt0, n_le0, n_eq0, n_gt0, n_lm, n_em, n_me, n_mlt, false_or, or_false, true_or, or_true, false_and, and_false, true_and, and_true, not_false_eq_true, not_true_eq_false, if_true, if_false, if_pos, if_neg, am_b01, am_b0, am_b1, ne_eq, eq_self, reduceCtorEq, rng_t, Bool.and_true, Bool.and_false, Bool.true_and, Bool.false_and, ite_rgI, if_pos rfl, XQ.1.2.2.2.1, b_X4_first_0_2, b_X4_first_22, b_X4_second_0_3, b_X4_second_22, b_X4_third_0_3, b_X4_third_22, e1.1, e1.2.1, e1.2.2, b_X7_mayBeOn_49, b_X7_mayBeOn_62, b_X7_mayBeOn_75, b_X7_mayBeOn_81]
      rw [hfk]
      by_cases z1 : eP r k = p
      · by_cases z2 : eH r k = h
        · by_cases z3 : eC r k = c <;> simp [z1, z2, z3]
        · simp [z1, z2]
      · simp [z1]
    rcases lpx (N := eN r) (f := fun k => am_ev (am_tbl Ls xs) 190 (28, [(0, .ref 64), (1, .int (nI p)), (2, .int (nI c)), (3, .int (nI h)), (4, .int (nI k))], [], (am_sh, I, J))) (fun k => ¬ f k = true) (fun k hk z => by
      try dsimp only
      rw [hd k hk, if_pos (Classical.byContradiction z)]) with ⟨k, h1, h2, h3, h4⟩ | ⟨h1, h2⟩
    · refine h4.trans ?_
      try dsimp only
      rw [hd k h1, if_neg h2]
      have : allb f (eN r) = false := by
        cases hx : allb f (eN r)
        · rfl
        · exact absurd (allb_iff.mp hx k h1) h2
      rw [this]; rfl
    · refine h2.trans ?_
      try dsimp only
      rw [b_X7_mayBeOn_28]
      simp (disch := omega) only [Option.bind_some, am_k_v, am_k_n, ↓n_in, nI_clamp, i_p1, nI_leI, nI_ltI, nI_eq, n_lt0, n_le0, n_eq0, n_gt0, n_lm, n_em, n_me, n_mlt, false_or, or_false, true_or, or_true, false_and, and_false, true_and, and_true, not_false_eq_true, not_true_eq_false, if_true, if_false, if_pos, if_neg, am_b01, am_b0, am_b1, ne_eq, eq_self, reduceCtorEq, rng_t, Bool.and_true, Bool.and_false, Bool.true_and, Bool.false_and, ite_rgI, if_pos rfl, XQ.1.2.2.2.1]
      rw [show allb f (eN r) = true from allb_iff.mpr fun k hk => Classical.byContradiction (h1 k hk)]
      rfl
  · rw [if_neg h0, decide_eq_false h0, Bool.false_and]; rfl
theorem sx_leastFrom (X : RX g I) (B : BG g) (D : RD g J) (XQ : QX g r I) (Q : BQ g r) {p c h : Nat} (hp : p < gP g) (hc : c < gW g * gD g) (hh : h < gN g) (hL : h + 1 < gN g → LX g (rW g r p (gN g - (h + 1))) (h + 1) I) : am_ev (am_tbl Ls xs) 189 (0, [(0, .ref 64), (1, .int (nI p)), (2, .int (nI c)), (3, .int (nI h))], [], (am_sh, I, J)) = some (some (.int (oF (rW g r p (gN g - h) c))), (am_sh, I, J)) := by
  have b1 := bg_1 B
  have b2 := bg_h B hh
  simp (disch := omega) only [b_X7_leastFrom_0, b_X7_leastFrom_8, b_X7_leastFrom_21, Option.bind_some, am_k_v, am_k_n, ↓n_in, nI_clamp, i_p1, nI_leI, nI_ltI, nI_eq, n_lt0, n_le0, n_eq0, n_gt0, n_lm, n_em, n_me, n_mlt, false_or, or_false, true_or, or_true, false_and, and_false, true_and, and_true, not_false_eq_true, not_true_eq_false, if_true, if_false, if_pos, if_neg, am_b01, am_b0, am_b1, ne_eq, eq_self, reduceCtorEq, rng_t, Bool.and_true, Bool.and_false, Bool.true_and, Bool.false_and, ite_rgI, if_pos rfl, sx_hourA X, sx_mayOn X B XQ Q hp hc hh, b_X7_leastFrom_18, nI_1, rx_N X]
  rw [show gN g - h = (gN g - (h + 1)) + 1 by omega, rW_s, show gN g - (gN g - (h + 1) + 1) = h by omega]
  cases hok : okW g r p c h
  · simp only [not_true_eq_false, if_false, reduceCtorEq]
    rfl
  · simp only [reduceCtorEq, not_false_eq_true, if_true]
    have e80 : ∀ v, v ≤ 100000 → am_ev (am_tbl Ls xs) 189 (80, [(0, .ref 64), (1, .int (nI p)), (2, .int (nI c)), (3, .int (nI h)), (4, .int (nI v))], [], (am_sh, I, J)) = some (some (.int (nI (txW g p h c + v))), (am_sh, I, J)) := fun v hv => by
      rw [b_X7_leastFrom_80, if_pos (oF_ne hv)]
      simp (disch := omega) only [Option.bind_some, am_k_v, am_k_n, ↓n_in, nI_clamp, i_p1, nI_leI, nI_ltI, nI_eq, n_lt0, n_le0, n_eq0, n_gt0, n_lm, n_em, n_me, n_mlt, false_or, or_false, true_or, or_true, false_and, and_false, true_and, and_true, not_false_eq_true, not_true_eq_false, if_true, if_false, if_pos, if_neg, am_b01, am_b0, am_b1, ne_eq, eq_self, reduceCtorEq, rng_t, Bool.and_true, Bool.and_false, Bool.true_and, Bool.false_and, ite_rgI, if_pos rfl, sx_owedAt X B D, b_X7_leastFrom_104, rx_S X, pk_mul, nI_add, b_X7_leastFrom_115]
      rw [Nat.add_comm]; rfl
    have eN : am_ev (am_tbl Ls xs) 189 (80, [(0, .ref 64), (1, .int (nI p)), (2, .int (nI c)), (3, .int (nI h)), (4, .int 1000000000)], [], (am_sh, I, J)) = some (some (.int 1000000000), (am_sh, I, J)) := by
      rw [b_X7_leastFrom_80, if_neg (by simp), b_X7_leastFrom_115]
    by_cases hl : gN g ≤ h + 1
    · rw [if_pos hl]
      have e0 : gN g - (h + 1) = 0 := by omega
      rw [e0]
      obtain ⟨t, ht⟩ := bsW_0 (g := g) (r := r) (p := p) hc
      rw [ht]
      exact e80 0 (by omega)
    · rw [if_neg hl, sx_next X B hc (by omega) (hL (by omega)), Option.bind_some, am_k_v, b_X7_leastFrom_48]
      cases hb : bsW g (rW g r p (gN g - (h + 1))) c with
      | none =>
        simp (disch := omega) only [Option.bind_some, am_k_v, am_k_n, ↓n_in, nI_clamp, i_p1, nI_leI, nI_ltI, nI_eq, n_lt0, n_le0, n_eq0, n_gt0, n_lm, n_em, n_me, n_mlt, false_or, or_false, true_or, or_true, false_and, and_false, true_and, and_true, not_false_eq_true, not_true_eq_false, if_true, if_false, if_pos, if_neg, am_b01, am_b0, am_b1, ne_eq, eq_self, reduceCtorEq, rng_t, Bool.and_true, Bool.and_false, Bool.true_and, Bool.false_and, ite_rgI, if_pos rfl, oI, sx_cellA X, rng_m1, b_X7_leastFrom_59, b_X7_leastFrom_78]
        exact eN
      | some t =>
        have ht := fls_lt hb
        have hLt := (hL (by omega)).1 t ht.1
        have hs := (Bool.and_eq_true_iff.mp ht.2).2
        simp (disch := omega) only [Option.bind_some, am_k_v, am_k_n, ↓n_in, nI_clamp, i_p1, nI_leI, nI_ltI, nI_eq, n_lt0, n_le0, n_eq0, n_gt0, n_lm, n_em, n_me, n_mlt, false_or, or_false, true_or, or_true, false_and, and_false, true_and, and_true, not_false_eq_true, not_true_eq_false, if_true, if_false, if_pos, if_neg, am_b01, am_b0, am_b1, ne_eq, eq_self, reduceCtorEq, rng_t, Bool.and_true, Bool.and_false, Bool.true_and, Bool.false_and, ite_rgI, if_pos rfl, oI, sx_cellA X, b_X7_leastFrom_59, b_X7_leastFrom_78, nI_1, hLt]
        cases hv : rW g r p (gN g - (h + 1)) t with
        | none => rw [hv] at hs; cases hs
        | some v =>
          exact e80 v ((hL (by omega)).2 t v hv)
def fr66 (I I' : Nat → Nat → Int32) : Prop := ∀ q k, (q < 66 ∨ 71 < q) → I' q k = I q k
theorem rx_fr66 (B : BG g) (R : RX g I) (F : fr66 I I') : RX g I' := rx_cong B (fun q k h => F q k (by unfold xS at h; omega)) R
theorem qx_fr66 (R : QX g r I) (F : fr66 I I') : QX g r I' := qx_cong (fun q k h => F q k (by unfold xQ at h; omega)) R
def oN : Option Nat → Int32
  | none => -1
  | some v => nI v
theorem sx_leastMean (X : RX g I) (B : BG g) (D : RD g J) (XQ : QX g r I) (Q : BQ g r) {p : Nat} (hp : p < gP g) : ∃ I', am_ev (am_tbl Ls xs) 188 (0, [(0, .ref 64), (1, .int (nI p))], [], (am_sh, I, J)) = some (some (.int (oN (rW g r p (gN g) (gA g p)))), (am_sh, I', J)) ∧ fr66 I I' ∧ ∀ h, h < gN g → LX g (rW g r p (gN g - h)) h I' := by
  have b1 := bg_1 B
  have b2 := bg_p B hp
  by_cases h0 : gN g = 0
  · refine ⟨I, ?_, fun q k _ => rfl, fun h hh => by omega⟩
    simp (disch := omega) only [b_X7_leastMean_0, b_X7_leastMean_8, b_X7_leastMean_21, Option.bind_some, am_k_v, am_k_n, ↓n_in, nI_clamp, i_p1, nI_leI, nI_ltI, nI_eq, n_lt0, n_le0, n_eq0, n_gt0, n_lm, n_em, n_me, n_mlt, false_or, or_false, true_or, or_true, false_and, and_false, true_and, and_true, not_false_eq_true, not_true_eq_false, if_true, if_false, if_pos, if_neg, am_b01, am_b0, am_b1, ne_eq, eq_self, reduceCtorEq, rng_t, Bool.and_true, Bool.and_false, Bool.true_and, Bool.false_and, ite_rgI, if_pos rfl, sx_personA X, rx_N X, h0]
    rfl
  · have hle : ∀ j c v, j ≤ gN g → rW g r p j c = some v → v ≤ 100000 := fun j c v hj hv => Nat.le_trans (rW_le2 B hj hv) (by omega)
    obtain ⟨I1, ⟨F1, L1⟩, e1⟩ := lpe (N := gN g) (f := fun k I' => am_ev (am_tbl Ls xs) 188 (33, [(0, .ref 64), (1, .int (nI p)), (2, .int (nI (gN g - k) - 1))], [], (am_sh, I', J))) (V := fun k I' => fr66 I I' ∧ ∀ h, gN g - k ≤ h → h < gN g → LX g (rW g r p (gN g - h)) h I') (by
      intro k I1 hk ⟨F1, L1⟩
      have X1 := rx_fr66 B X F1
      have e3 : nI (gN g - k) - 1 = nI (gN g - (k + 1)) := by rw [show (1 : Int32) = nI 1 from rfl, pk_sub (by omega), show gN g - k - 1 = gN g - (k + 1) by omega]
      have hh : gN g - (k + 1) < gN g := by omega
      have hh1 : gN g - (k + 1) + 1 = gN g - k := by omega
      have hh2 : gN g - (gN g - (k + 1)) = k + 1 := by omega
      generalize hhd : gN g - (k + 1) = h at e3 hh hh1 hh2
      obtain ⟨I2, ⟨F2, L2, L3⟩, e2⟩ := lpe (N := gW g * gD g) (f := fun j I' => am_ev (am_tbl Ls xs) 188 (39, [(0, .ref 64), (1, .int (nI p)), (2, .int (nI h)), (3, .int (nI j))], [], (am_sh, I', J))) (V := fun j I' => fr66 I I' ∧ (∀ h', h + 1 ≤ h' → h' < gN g → LX g (rW g r p (gN g - h')) h' I') ∧ ∀ c, c < j → I' (66 + h) c = oF (rW g r p (gN g - h) c)) (by
        intro j I2 hj ⟨F2, L2, L3⟩
        have X2 := rx_fr66 B X F2
        have hlf := sx_leastFrom (Ls := Ls) (xs := xs) X2 B D (qx_fr66 XQ F2) Q hp hj hh (fun hl => L2 (h + 1) (by omega) hl)
        refine ⟨am_up2 I2 (66 + h) j (oF (rW g r p (gN g - h) j)), ⟨fun q i hq => ?_, fun h' a1 a2 => ⟨fun c hc => ?_, (L2 h' a1 a2).2⟩, fun c hc => ?_⟩, ?_⟩
        · rw [up_ne (by omega)]; exact F2 q i hq
        · rw [up_ne (by omega)]; exact (L2 h' a1 a2).1 c hc
        · by_cases e : c = j
          · rw [e, up_eq]
          · rw [up_ne (by omega)]; exact L3 c (by omega)
        · have hg : ¬ (nI h < 0 ∨ 6 ≤ Int32.toNatClampNeg (nI h)) := i_in (by omega) (by omega)
          have h64 := b_X7_leastMean_64 (Ls := Ls) (xs := xs) I2 J (nI p) (nI h) (nI j) (oF (rW g r p (gN g - h) j)) (nI j) (nI h) hg
          rw [nI_clamp (show h < 2 ^ 31 by omega), nI_clamp (show j < 2 ^ 31 by omega)] at h64
          try dsimp only
          rw [b_X7_leastMean_39]
          simp (disch := omega) only [Option.bind_some, am_k_v, am_k_n, ↓n_in, nI_clamp, i_p1, nI_leI, nI_ltI, nI_eq, n_lt0, n_le0, n_eq0, n_gt0, n_lm, n_em, n_me, n_mlt, false_or, or_false, true_or, or_true, false_and, and_false, true_and, and_true, not_false_eq_true, not_true_eq_false, if_true, if_false, if_pos, if_neg, am_b01, am_b0, am_b1, ne_eq, eq_self, reduceCtorEq, rng_t, Bool.and_true, Bool.and_false, Bool.true_and, Bool.false_and, ite_rgI, if_pos rfl, rx_C X2, hlf]
          rw [h64, n_guard ⟨by omega, by omega⟩, i_p1]) I1 ⟨F1, fun h' a1 a2 => L1 h' (by omega) a2, fun c hc => absurd hc (Nat.not_lt_zero c)⟩
      have X2 := rx_fr66 B X F2
      refine ⟨I2, ⟨F2, fun h' a1 a2 => ?_⟩, ?_⟩
      · by_cases e : h' = h
        · subst e
          exact ⟨fun c hc => L3 c hc, fun c v hv => hle _ c v (by omega) hv⟩
        · exact L2 h' (by omega) a2
      · try dsimp only
        rw [e3, b_X7_leastMean_33, if_neg (nI_pos (by omega))]
        refine e2.trans ?_
        try dsimp only
        rw [b_X7_leastMean_39, rx_C X2, if_pos (nI_le (by omega) (by omega))]
        rw [show Int32.ofInt (-1) = (-1 : Int32) from rfl, ← Int32.sub_eq_add_neg]) I ⟨fun q k _ => rfl, fun h a1 a2 => by omega⟩
    have X1 := rx_fr66 B X F1
    refine ⟨I1, ?_, F1, fun h hh => L1 h (by omega) hh⟩
    rw [b_X7_leastMean_0, sx_personA X, rng_t ⟨hp, by omega⟩, Option.bind_some, am_k_v, b_X7_leastMean_8, if_neg (by decide), rx_N X, if_pos (show nI (gN g) ≠ 0 from fun z => h0 ((n_eq0 (by omega)).mp z))]
    refine Eq.trans e1 ?_
    try dsimp only
    rw [Nat.sub_self, b_X7_leastMean_33, if_pos (show nI 0 - 1 < 0 by decide)]
    have hL0 := L1 0 (by omega) (by omega)
    rw [Nat.sub_zero] at hL0
    have eA := hL0.1 (gA g p) b2.2.2.2
    rw [Nat.add_zero] at eA
    simp (disch := omega) only [Option.bind_some, am_k_v, am_k_n, ↓n_in, nI_clamp, i_p1, nI_leI, nI_ltI, nI_eq, n_lt0, n_le0, n_eq0, n_gt0, n_lm, n_em, n_me, n_mlt, false_or, or_false, true_or, or_true, false_and, and_false, true_and, and_true, not_false_eq_true, not_true_eq_false, if_true, if_false, if_pos, if_neg, am_b01, am_b0, am_b1, ne_eq, eq_self, reduceCtorEq, rng_t, Bool.and_true, Bool.and_false, Bool.true_and, Bool.false_and, ite_rgI, if_pos rfl, rx_A X1, sx_cellA X1, b_X7_leastMean_95]
    rw [if_pos (show ¬ ((0 : Nat) < 0 ∨ 6 ≤ Int32.toNatClampNeg 0) by decide), show 66 + Int32.toNatClampNeg 0 = 66 from rfl, eA]
    cases hv : rW g r p (gN g) (gA g p) with
    | none =>
      rw [if_pos (show (1000000000 : Int32) ≤ oF none by decide), b_X7_leastMean_122, b_X7_leastMean_123]
      rfl
    | some v =>
      rw [if_neg (show ¬ (1000000000 : Int32) ≤ oF (some v) from oF_lt (hle _ _ v (Nat.le_refl _) hv)), b_X7_leastMean_123]
      rfl
theorem sx_cellAtH (X : RX g I) (B : BG g) {p : Nat} (hp : p < gP g) {v : Nat} (hv : rW g r p (gN g) (gA g p) = some v) (L : ∀ h, h < gN g → LX g (rW g r p (gN g - h)) h I) {h : Nat} (hh : h < gN g) : am_ev (am_tbl Ls xs) 192 (0, [(0, .ref 64), (1, .int (nI p)), (2, .int (nI h))], [], (am_sh, I, J)) = some (some (.int (nI (ptW g r p h))), (am_sh, I, J)) := by
  have b1 := bg_1 B
  have b2 := bg_p B hp
  have hpt := ptW_ok (r := r) b2.2.2.2 hv
  simp (disch := omega) only [b_X7_cellAtHour_0, b_X7_cellAtHour_8, b_X7_cellAtHour_24, Option.bind_some, am_k_v, am_k_n, ↓n_in, nI_clamp, i_p1, nI_leI, nI_ltI, nI_eq, n_lt0, n_le0, n_eq0, n_gt0, n_lm, n_em, n_me, n_mlt, false_or, or_false, true_or, or_true, false_and, and_false, true_and, and_true, not_false_eq_true, not_true_eq_false, if_true, if_false, if_pos, if_neg, am_b01, am_b0, am_b1, ne_eq, eq_self, reduceCtorEq, rng_t, Bool.and_true, Bool.and_false, Bool.true_and, Bool.false_and, ite_rgI, if_pos rfl, sx_personA X, rx_A X]
  refine Eq.trans ?_ ((lp (N := h) (f := fun k => am_ev (am_tbl Ls xs) 192 (28, [(0, .ref 64), (2, .int (nI h)), (3, .int (nI (ptW g r p k))), (4, .int (nI (k + 1)))], [], (am_sh, I, J))) ?_).trans ?_)
  · rfl
  · intro k hk
    have hk1 := hpt k (by omega)
    have hk2 := hpt (k + 1) (by omega)
    try dsimp only
    rw [b_X7_cellAtHour_28]
    simp (disch := omega) only [Option.bind_some, am_k_v, am_k_n, ↓n_in, nI_clamp, i_p1, nI_leI, nI_ltI, nI_eq, n_lt0, n_le0, n_eq0, n_gt0, n_lm, n_em, n_me, n_mlt, false_or, or_false, true_or, or_true, false_and, and_false, true_and, and_true, not_false_eq_true, not_true_eq_false, if_true, if_false, if_pos, if_neg, am_b01, am_b0, am_b1, ne_eq, eq_self, reduceCtorEq, rng_t, Bool.and_true, Bool.and_false, Bool.true_and, Bool.false_and, ite_rgI, if_pos rfl, rx_N X]
    rw [sx_next X B hk1.1 (by omega) (L (k + 1) (by omega)), Option.bind_some, am_k_v, b_X7_cellAtHour_53, i_p1]
    have hb : ∃ t, bsW g (rW g r p (gN g - (k + 1))) (ptW g r p k) = some t := by
      have h2 := hk1.2
      rw [show gN g - k = (gN g - (k + 1)) + 1 by omega, rW_s] at h2
      split at h2
      · cases hb : bsW g (rW g r p (gN g - (k + 1))) (ptW g r p k) with
        | none => rw [hb] at h2; cases h2
        | some t => exact ⟨t, rfl⟩
      · cases h2
    obtain ⟨t, ht⟩ := hb
    rw [show ptW g r p (k + 1) = (bsW g (rW g r p (gN g - (k + 1))) (ptW g r p k)).getD 0 from rfl, ht]
    rfl
  · try dsimp only
    rw [b_X7_cellAtHour_28]
    simp (disch := omega) only [Option.bind_some, am_k_v, am_k_n, ↓n_in, nI_clamp, i_p1, nI_leI, nI_ltI, nI_eq, n_lt0, n_le0, n_eq0, n_gt0, n_lm, n_em, n_me, n_mlt, false_or, or_false, true_or, or_true, false_and, and_false, true_and, and_true, not_false_eq_true, not_true_eq_false, if_true, if_false, if_pos, if_neg, am_b01, am_b0, am_b1, ne_eq, eq_self, reduceCtorEq, rng_t, Bool.and_true, Bool.and_false, Bool.true_and, Bool.false_and, ite_rgI, if_pos rfl, b_X7_cellAtHour_60]
end
