/-! RICHEST, BEST, WALLS -/
theorem up_self {α : Type} {I : Nat → Nat → α} {r k : Nat} : am_up2 I r k (I r k) = I := by
  funext a b
  unfold am_up2
  split
  · rename_i h; rw [h.1, h.2]
  · rfl
theorem wr_wr {α : Type} {I : Nat → Nat → α} {r n : Nat} {f f' : Nat → α} : wri (wri I r n f) r n f' = wri I r n f' := by
  funext a b
  unfold wri
  split <;> rfl
theorem wr_same {α : Type} {I : Nat → Nat → α} {r n : Nat} {f : Nat → α} (h : ∀ j, j < n → I r j = f j) : wri I r n f = I := by
  funext a b
  unfold wri
  split
  · rename_i q; rw [q.1, h b q.2]
  · rfl
/-- p moved: what p owes elsewhere is the same -/
theorem ow_A {g : Vg} {p x c t h : Nat} {ns : Option Nat} : owC (setA g (fset (gA g) p x)) p c t ns h = owC g p c t ns h := by
  have e1 : dk (setA g (fset (gA g) p x)) h = dk g h := dk_same rfl rfl
  unfold owC
  rw [e1]
  show owL (setA g (fset (gA g) p x)) (dk g h) p t ns h (shd g (dk g h) c t h &&& (dk g h ^^^ (-1))) (gP g) = _
  generalize shd g (dk g h) c t h &&& (dk g h ^^^ (-1)) = s
  generalize dk g h = d
  have : ∀ n, owL (setA g (fset (gA g) p x)) d p t ns h s n = owL g d p t ns h s n := by
    intro n
    induction n with
    | zero => rfl
    | succ n ih =>
      show owS (setA g (fset (gA g) p x)) d p t ns h n (owL (setA g (fset (gA g) p x)) d p t ns h s n) = owS g d p t ns h n (owL g d p t ns h s n)
      rw [ih]
      unfold owS
      by_cases e : n = p
      · rw [if_neg (fun q => q.1.1 e), if_neg (fun q => q.1.1 e)]
      · rw [show gA (setA g (fset (gA g) p x)) n = gA g n from fset_ne e]
        rfl
  exact this _
theorem owN_A {g : Vg} {p x c t h : Nat} {ns : Option Nat} : owN (setA g (fset (gA g) p x)) p c t ns h = owN g p c t ns h := by
  unfold owN; rw [ow_A]
theorem mnN_A {g : Vg} {p x c t : Nat} {ns : Option Nat} : mnN (setA g (fset (gA g) p x)) p c t ns = mnN g p c t ns := sm_cong fun h _ => by
  show owN (setA g (fset (gA g) p x)) p c t ns h * gS g h = _
  rw [owN_A]
theorem mnP_A {g : Vg} {p x : Nat} : mnP (setA g (fset (gA g) p x)) p = mnN g p x (tl g p) none := by
  unfold mnP
  rw [mnN_A]
  show mnN g p (fset (gA g) p x p) (tl g p) none = _
  rw [fset_eq]
theorem wsl_A {g : Vg} {p x c : Nat} : ∀ n, wsl (setA g (fset (gA g) p x)) p c n = wsl g p c n
  | 0 => rfl
  | n + 1 => by
    rw [wsl_s, wsl_s, wsl_A n]
    rw [show tl (setA g (fset (gA g) p x)) p = tl g p from rfl, owN_A]
    rfl
theorem wsP_A {g : Vg} {p x : Nat} : wsN (setA g (fset (gA g) p x)) p (gA (setA g (fset (gA g) p x)) p) = wsN g p x := by
  show wsN (setA g (fset (gA g) p x)) p (fset (gA g) p x p) = _
  rw [fset_eq]
  exact wsl_A _
def lvI (d : Int32) (f : Nat → Nat) : Option Nat → Int32
  | none => d
  | some i => nI (f i)
def lastf (P : Nat → Bool) (z : Int32) : Nat → Int32
  | 0 => z
  | n + 1 => if P n = true then nI n else lastf P z n
theorem lastf_s {P : Nat → Bool} {z : Int32} {n : Nat} : lastf P z (n + 1) = if P n = true then nI n else lastf P z n := rfl
section
variable {Ls : Nat} {xs : Nat → Int32} {g : Vg} {r : Vr} {I I' : Nat → Nat → Int32} {J : Nat → Nat → Int64}
theorem sp_richest (M : RM g I) (B : BG g) (C : m0 I) (a : Int32) : am_ev (am_tbl Ls xs) 65 (20, [(0, .ref 81), (1, .int a), (2, .int ((-1))), (3, .int 0), (4, .int 0)], [], (am_sh, I, J)) = some (some (.int (if a ≠ 0 then lvI (-1) (obA g) (fgr (obA g) (gN g)) else oI (fgr (obA g) (gN g)))), (am_sh, I, J)) := by
  have b1 := bg_1 B
  refine (lp (N := gN g) (f := fun k => am_ev (am_tbl Ls xs) 65 (20, [(0, .ref 81), (1, .int a), (2, .int (oI (fgr (obA g) k))), (3, .int (lvI 0 (obA g) (fgr (obA g) k))), (4, .int (nI k))], [], (am_sh, I, J))) ?_).trans ?_
  · intro h hh
    have b2 : obA g h ≤ 288 := obA_le B (Nat.le_refl _)
    try dsimp only
    rw [b_X9_richest_20, rm_N M, if_neg (nI_ge hh (by omega))]
    refine (lp (N := gP g) (f := fun k => am_ev (am_tbl Ls xs) 65 (35, [(0, .ref 81), (1, .int a), (2, .int (oI (fgr (obA g) h))), (3, .int (lvI 0 (obA g) (fgr (obA g) h))), (4, .int (nI h)), (5, .int (nI (sm (fun p => owN g p (gA g p) (tl g p) none h) k))), (6, .int (nI k))], [], (am_sh, I, J))) ?_).trans ?_
    · intro k hk
      try dsimp only
      rw [b_X9_richest_35]
      simp (disch := omega) only [b_X9_richest_54, Option.bind_some, am_k_v, am_k_n, ↓n_in, nI_clamp, i_p1, nI_leI, nI_ltI, nI_eq, n_lt0, n_le0, n_eq0, n_gt0, n_lm, n_em, n_me, n_mlt, false_or, or_false, true_or, or_true, false_and, and_false, true_and, and_true, not_false_eq_true, not_true_eq_false, if_true, if_false, if_pos, if_neg, am_b01, am_b0, am_b1, ne_eq, eq_self, reduceCtorEq, rng_t, Bool.and_true, Bool.and_false, Bool.true_and, Bool.false_and, ite_rgI, if_pos rfl, rm_P M, sp_owed0 M B C, nI_add, sm]
    · try dsimp only
      rw [b_X9_richest_35]
      rw [show sm (fun p => owN g p (gA g p) (tl g p) none h) (gP g) = obA g h from rfl, fgr_s]
      cases hf : fgr (obA g) h with
      | none =>
        simp (disch := omega) only [b_X9_richest_73, b_X9_richest_78, b_X9_richest_91, b_X9_richest_103, Option.bind_some, am_k_v, am_k_n, ↓n_in, nI_clamp, i_p1, nI_leI, nI_ltI, nI_eq, n_lt0, n_le0, n_eq0, n_gt0, n_lm, n_em, n_me, n_mlt, false_or, or_false, true_or, or_true, false_and, and_false, true_and, and_true, not_false_eq_true, not_true_eq_false, if_true, if_false, if_pos, if_neg, am_b01, am_b0, am_b1, ne_eq, eq_self, reduceCtorEq, rng_t, Bool.and_true, Bool.and_false, Bool.true_and, Bool.false_and, ite_rgI, if_pos rfl, rm_P M, oI, lvI, show ((-1 : Int32) < 0) = True from by decide, show ((1 : Int32) = 0) = False from by decide]
      | some i =>
        have b3 : obA g i ≤ 288 := obA_le B (Nat.le_refl _)
        have b6 := fgr_lt hf
        simp (disch := omega) only [b_X9_richest_73, b_X9_richest_78, b_X9_richest_91, b_X9_richest_103, Option.bind_some, am_k_v, am_k_n, ↓n_in, nI_clamp, i_p1, nI_leI, nI_ltI, nI_eq, n_lt0, n_le0, n_eq0, n_gt0, n_lm, n_em, n_me, n_mlt, false_or, or_false, true_or, or_true, false_and, and_false, true_and, and_true, not_false_eq_true, not_true_eq_false, if_true, if_false, if_pos, if_neg, am_b01, am_b0, am_b1, ne_eq, eq_self, reduceCtorEq, rng_t, Bool.and_true, Bool.and_false, Bool.true_and, Bool.false_and, ite_rgI, if_pos rfl, rm_P M, oI, lvI, show ((1 : Int32) = 0) = False from by decide]
        by_cases h0 : obA g i < obA g h
        · rw [if_neg (show ¬ obA g h ≤ obA g i by omega), if_pos h0]
        · rw [if_pos (show obA g h ≤ obA g i by omega), if_neg h0]
  · try dsimp only
    rw [b_X9_richest_20]
    cases hf : fgr (obA g) (gN g) with
    | none => simp (disch := omega) only [b_X9_richest_118, b_X9_richest_123, Option.bind_some, am_k_v, am_k_n, ↓n_in, nI_clamp, i_p1, nI_leI, nI_ltI, nI_eq, n_lt0, n_le0, n_eq0, n_gt0, n_lm, n_em, n_me, n_mlt, false_or, or_false, true_or, or_true, false_and, and_false, true_and, and_true, not_false_eq_true, not_true_eq_false, if_true, if_false, if_pos, if_neg, am_b01, am_b0, am_b1, ne_eq, eq_self, reduceCtorEq, rng_t, Bool.and_true, Bool.and_false, Bool.true_and, Bool.false_and, ite_rgI, if_pos rfl, rm_N M, oI, lvI, show ((-1 : Int32) < 0) = True from by decide, ite_self]
    | some i =>
      have := fgr_lt hf
      simp (disch := omega) only [b_X9_richest_118, b_X9_richest_123, Option.bind_some, am_k_v, am_k_n, ↓n_in, nI_clamp, i_p1, nI_leI, nI_ltI, nI_eq, n_lt0, n_le0, n_eq0, n_gt0, n_lm, n_em, n_me, n_mlt, false_or, or_false, true_or, or_true, false_and, and_false, true_and, and_true, not_false_eq_true, not_true_eq_false, if_true, if_false, if_pos, if_neg, am_b01, am_b0, am_b1, ne_eq, eq_self, reduceCtorEq, rng_t, Bool.and_true, Bool.and_false, Bool.true_and, Bool.false_and, ite_rgI, if_pos rfl, rm_N M, oI, lvI]
      by_cases ha : a = 0
      · simp only [ha, not_true_eq_false, if_false]
      · simp only [ha, not_false_eq_true, if_true]
theorem pu_richest (H : Inv I J) (a : Int32) : StpC Ls xs 95 65 [(0, .ref 0), (1, .int a)] [(0, .ref 81), (1, .int a)] I J := by
  obtain ⟨g, r, S, Q, ⟨X, XQ, D⟩, ⟨M, MQ, C⟩⟩ := id H
  have B := S.1
  have b1 := bg_1 B
  cases hr : rgI 0 1 a
  · refine stp_pure H (v := -1000000002) ?_ ?_
    · simp (disch := omega) only [b_X8_richest_0, b_X8_richest_9, Option.bind_some, am_k_v, am_k_n, ↓n_in, nI_clamp, i_p1, nI_leI, nI_ltI, nI_eq, n_lt0, n_le0, n_eq0, n_gt0, n_lm, n_em, n_me, n_mlt, false_or, or_false, true_or, or_true, false_and, and_false, true_and, and_true, not_false_eq_true, not_true_eq_false, if_true, if_false, if_pos, if_neg, am_b01, am_b0, am_b1, ne_eq, eq_self, reduceCtorEq, rng_t, Bool.and_true, Bool.and_false, Bool.true_and, Bool.false_and, ite_rgI, if_pos rfl, hr]
    · simp (disch := omega) only [b_X9_richest_0, b_X9_richest_7, Option.bind_some, am_k_v, am_k_n, ↓n_in, nI_clamp, i_p1, nI_leI, nI_ltI, nI_eq, n_lt0, n_le0, n_eq0, n_gt0, n_lm, n_em, n_me, n_mlt, false_or, or_false, true_or, or_true, false_and, and_false, true_and, and_true, not_false_eq_true, not_true_eq_false, if_true, if_false, if_pos, if_neg, am_b01, am_b0, am_b1, ne_eq, eq_self, reduceCtorEq, rng_t, Bool.and_true, Bool.and_false, Bool.true_and, Bool.false_and, ite_rgI, if_pos rfl, sp_in_0_1, hr]
  · refine stp_pure H (v := if a ≠ 0 then lvI (-1) (obA g) (fgr (obA g) (gN g)) else oI (fgr (obA g) (gN g))) ?_ ?_
    · simp (disch := omega) only [b_X8_richest_0, b_X8_richest_9, Option.bind_some, am_k_v, am_k_n, ↓n_in, nI_clamp, i_p1, nI_leI, nI_ltI, nI_eq, n_lt0, n_le0, n_eq0, n_gt0, n_lm, n_em, n_me, n_mlt, false_or, or_false, true_or, or_true, false_and, and_false, true_and, and_true, not_false_eq_true, not_true_eq_false, if_true, if_false, if_pos, if_neg, am_b01, am_b0, am_b1, ne_eq, eq_self, reduceCtorEq, rng_t, Bool.and_true, Bool.and_false, Bool.true_and, Bool.false_and, ite_rgI, if_pos rfl, hr, sx_richest X B D, b_X8_richest_19, b_X8_richest_29, b_X8_richest_41_2]
      by_cases ha : a = 0
      · simp only [ha, not_true_eq_false, if_false, if_true]
      · cases hf : fgr (obA g) (gN g) with
        | none => simp only [ha, not_false_eq_true, if_true, if_false, oI, lvI, not_true_eq_false]
        | some i =>
          have := fgr_lt hf
          simp (disch := omega) only [ha, Option.bind_some, am_k_v, am_k_n, ↓n_in, nI_clamp, i_p1, nI_leI, nI_ltI, nI_eq, n_lt0, n_le0, n_eq0, n_gt0, n_lm, n_em, n_me, n_mlt, false_or, or_false, true_or, or_true, false_and, and_false, true_and, and_true, not_false_eq_true, not_true_eq_false, if_true, if_false, if_pos, if_neg, am_b01, am_b0, am_b1, ne_eq, eq_self, reduceCtorEq, rng_t, Bool.and_true, Bool.and_false, Bool.true_and, Bool.false_and, ite_rgI, if_pos rfl, oI, lvI, sx_obA X B D, b_X8_richest_41]
    · simp (disch := omega) only [b_X9_richest_0, b_X9_richest_7, Option.bind_some, am_k_v, am_k_n, ↓n_in, nI_clamp, i_p1, nI_leI, nI_ltI, nI_eq, n_lt0, n_le0, n_eq0, n_gt0, n_lm, n_em, n_me, n_mlt, false_or, or_false, true_or, or_true, false_and, and_false, true_and, and_true, not_false_eq_true, not_true_eq_false, if_true, if_false, if_pos, if_neg, am_b01, am_b0, am_b1, ne_eq, eq_self, reduceCtorEq, rng_t, Bool.and_true, Bool.and_false, Bool.true_and, Bool.false_and, ite_rgI, if_pos rfl, sp_in_0_1, hr]
      have := sp_richest (Ls := Ls) (xs := xs) (J := J) M B C a
      simp only [ne_eq] at this
      exact this
def bsf (g : Vg) (p : Nat) (a : Int32) (c : Nat) : Nat := if a = 0 then mnN g p c (tl g p) none else wsN g p c
theorem bsf_le (B : BG g) {p : Nat} {a : Int32} {c : Nat} : bsf g p a c ≤ 5760 := by
  unfold bsf
  split
  · exact mnN_le B (Nat.le_refl _)
  · have := wsl_le (g := g) (p := p) (c := c) (gN g)
    exact Nat.le_trans this (by omega)
def fre (g : Vg) (c : Nat) : Bool := decide (gH g c = 0)
theorem sx_bestFor (X : RX g I) (B : BG g) (D : RD g J) {p : Nat} (hp : p < gP g) (a : Int32) : am_ev (am_tbl Ls xs) 120 (0, [(0, .ref 63), (1, .int (nI p)), (2, .int a)], [], (am_sh, I, J)) = some (some (.int (oI (fls (fre g) (bsf g p a) (gW g * gD g)))), (am_sh, I, J)) := by
  have b1 := bg_1 B
  have b2 := tl_le B hp
  rw [b_X1_bestFor_0]
  refine (lp (N := gW g * gD g) (f := fun k => am_ev (am_tbl Ls xs) 120 (9, [(0, .ref 63), (1, .int (nI p)), (2, .int a), (3, .int (oI (fls (fre g) (bsf g p a) k))), (4, .int (lvI 1000000000 (bsf g p a) (fls (fre g) (bsf g p a) k))), (5, .int (nI k))], [], (am_sh, I, J))) ?_).trans ?_
  · intro k hk
    have b3 := bg_H B (show k < 48 by omega)
    have b4 : bsf g p a k ≤ 5760 := bsf_le B
    try dsimp only
    rw [b_X1_bestFor_9]
    have e73 : am_ev (am_tbl Ls xs) 120 (73, [(0, .ref 63), (1, .int (nI p)), (2, .int a), (3, .int (oI (fls (fre g) (bsf g p a) k))), (4, .int (lvI 1000000000 (bsf g p a) (fls (fre g) (bsf g p a) k))), (5, .int (nI k))], [.int (nI (bsf g p a k))], (am_sh, I, J)) = if gH g k = 0 then am_ev (am_tbl Ls xs) 120 (9, [(0, .ref 63), (1, .int (nI p)), (2, .int a), (3, .int (oI (fls (fre g) (bsf g p a) (k + 1)))), (4, .int (lvI 1000000000 (bsf g p a) (fls (fre g) (bsf g p a) (k + 1)))), (5, .int (nI (k + 1)))], [], (am_sh, I, J)) else am_ev (am_tbl Ls xs) 120 (73, [(0, .ref 63), (1, .int (nI p)), (2, .int a), (3, .int (oI (fls (fre g) (bsf g p a) k))), (4, .int (lvI 1000000000 (bsf g p a) (fls (fre g) (bsf g p a) k))), (5, .int (nI k))], [.int (nI (bsf g p a k))], (am_sh, I, J)) := by
      by_cases h0 : gH g k = 0
      · rw [if_pos h0, b_X1_bestFor_73, fls_s, if_pos (show fre g k = true from decide_eq_true h0)]
        cases hf : fls (fre g) (bsf g p a) k with
        | none =>
          simp only [lvI, b_X1_bestFor_89, i_p1]
          rw [if_neg (by rw [i_leN, nI_toInt (by omega), show (1000000000 : Int32).toInt = 1000000000 from rfl]; omega)]
          rfl
        | some i =>
          have b5 : bsf g p a i ≤ 5760 := bsf_le B
          simp (disch := omega) only [lvI, b_X1_bestFor_89, Option.bind_some, am_k_v, am_k_n, ↓n_in, nI_clamp, i_p1, nI_leI, nI_ltI, nI_eq, n_lt0, n_le0, n_eq0, n_gt0, n_lm, n_em, n_me, n_mlt, false_or, or_false, true_or, or_true, false_and, and_false, true_and, and_true, not_false_eq_true, not_true_eq_false, if_true, if_false, if_pos, if_neg, am_b01, am_b0, am_b1, ne_eq, eq_self, reduceCtorEq, rng_t, Bool.and_true, Bool.and_false, Bool.true_and, Bool.false_and, ite_rgI, if_pos rfl]
          by_cases h1 : bsf g p a k < bsf g p a i
          · rw [if_neg (show ¬ bsf g p a i ≤ bsf g p a k by omega), if_pos h1]; rfl
          · rw [if_pos (show bsf g p a i ≤ bsf g p a k by omega), if_neg h1]
      · rw [if_neg h0]
    simp (disch := omega) only [Option.bind_some, am_k_v, am_k_n, ↓n_in, nI_clamp, i_p1, nI_leI, nI_ltI, nI_eq, n_lt0, n_le0, n_eq0, n_gt0, n_lm, n_em, n_me, n_mlt, false_or, or_false, true_or, or_true, false_and, and_false, true_and, and_true, not_false_eq_true, not_true_eq_false, if_true, if_false, if_pos, if_neg, am_b01, am_b0, am_b1, ne_eq, eq_self, reduceCtorEq, rng_t, Bool.and_true, Bool.and_false, Bool.true_and, Bool.false_and, ite_rgI, if_pos rfl, rx_C X, rx_H X, b_X1_bestFor_56, b_X1_bestFor_60, b_X1_bestFor_89, sx_tall X B, sx_mean0 X B D, sx_worst X B D]
    by_cases h0 : gH g k = 0
    · rw [if_pos h0]
      rw [if_pos h0] at e73
      by_cases ha : a = 0
      · rw [if_neg (by rw [ha]; simp), show mnN g p k (tl g p) none = bsf g p a k by unfold bsf; rw [if_pos ha]]
        exact e73
      · rw [if_pos ha, show wsN g p k = bsf g p a k by unfold bsf; rw [if_neg ha]]
        exact e73
    · rw [if_neg h0, fls_s, if_neg (show ¬ fre g k = true from fun q => h0 (of_decide_eq_true q))]
  · try dsimp only
    rw [b_X1_bestFor_9]
    simp (disch := omega) only [Option.bind_some, am_k_v, am_k_n, ↓n_in, nI_clamp, i_p1, nI_leI, nI_ltI, nI_eq, n_lt0, n_le0, n_eq0, n_gt0, n_lm, n_em, n_me, n_mlt, false_or, or_false, true_or, or_true, false_and, and_false, true_and, and_true, not_false_eq_true, not_true_eq_false, if_true, if_false, if_pos, if_neg, am_b01, am_b0, am_b1, ne_eq, eq_self, reduceCtorEq, rng_t, Bool.and_true, Bool.and_false, Bool.true_and, Bool.false_and, ite_rgI, if_pos rfl, rx_C X]
theorem sp_bestL (M : RM g I) (B : BG g) (C : m0 I) {p : Nat} (hp : p < gP g) (hfr : fre g (gA g p) = true) (a : Int32) : am_ev (am_tbl Ls xs) 52 (41, [(0, .ref 81), (1, .int (nI p)), (2, .int a), (3, .int (I 87 p)), (4, .int ((-1))), (5, .int 0), (6, .int 0)], [], (am_sh, I, J)) = some (some (.int (lvI (-1) (nam g) (fls (fre g) (bsf g p a) (gW g * gD g)))), (am_sh, I, J)) := by
  have b1 := bg_1 B
  have b2 := bg_p B hp
  refine Eq.trans ?_ ((lp (N := gW g * gD g) (f := fun k => am_ev (am_tbl Ls xs) 52 (41, [(0, .ref 81), (1, .int (nI p)), (2, .int a), (3, .int (I 87 p)), (4, .int (oI (fls (fre g) (bsf g p a) k))), (5, .int (lvI 0 (bsf g p a) (fls (fre g) (bsf g p a) k))), (6, .int (nI k))], [], (am_sh, am_up2 I 87 p (lastf (fre g) (I 87 p) k), J))) ?_).trans ?_)
  · show _ = am_ev (am_tbl Ls xs) 52 (41, [(0, .ref 81), (1, .int (nI p)), (2, .int a), (3, .int (I 87 p)), (4, .int ((-1))), (5, .int 0), (6, .int 0)], [], (am_sh, am_up2 I 87 p (I 87 p), J))
    rw [up_self]
  · intro k hk
    have b3 := bg_H B (show k < 48 by omega)
    have b4 : bsf g p a k ≤ 5760 := bsf_le B
    try dsimp only
    rw [b_X9_best_41, sp_cells]
    simp (disch := omega) only [b_X9_best_47, Option.bind_some, am_k_v, am_k_n, ↓n_in, nI_clamp, i_p1, nI_leI, nI_ltI, nI_eq, n_lt0, n_le0, n_eq0, n_gt0, n_lm, n_em, n_me, n_mlt, false_or, or_false, true_or, or_true, false_and, and_false, true_and, and_true, not_false_eq_true, not_true_eq_false, if_true, if_false, if_pos, if_neg, am_b01, am_b0, am_b1, ne_eq, eq_self, reduceCtorEq, rng_t, Bool.and_true, Bool.and_false, Bool.true_and, Bool.false_and, ite_rgI, if_pos rfl, up_ne, rm_W M, rm_D M, pk_mul, rm_H M, up_up, lastf_s]
    by_cases h0 : gH g k = 0
    · have hP : fre g k = true := decide_eq_true h0
      have Mk := rm_setA (c := k) M hp
      have Bk : BG (setA g (fset (gA g) p k)) := by
        refine ⟨B.1, B.2.1, fun q hq => ?_, B.2.2.2⟩
        have := B.2.2.1 q hq
        refine ⟨this.1, this.2.1, this.2.2.1, ?_⟩
        show fset (gA g) p k q < gW g * gD g
        by_cases e : q = p
        · rw [e, fset_eq]; exact hk
        · rw [fset_ne e]; exact this.2.2.2
      have Ck : m0 (am_up2 I 87 p (nI k)) := m0_up (by unfold m4; omega) C
      rw [if_neg (by omega), if_pos hP]
      have e85 : am_ev (am_tbl Ls xs) 52 (85, [(0, .ref 81), (1, .int (nI p)), (2, .int a), (3, .int (I 87 p)), (4, .int (oI (fls (fre g) (bsf g p a) k))), (5, .int (lvI 0 (bsf g p a) (fls (fre g) (bsf g p a) k))), (6, .int (nI k))], [.int (nI (bsf g p a k))], (am_sh, am_up2 I 87 p (nI k), J)) = am_ev (am_tbl Ls xs) 52 (41, [(0, .ref 81), (1, .int (nI p)), (2, .int a), (3, .int (I 87 p)), (4, .int (oI (fls (fre g) (bsf g p a) (k + 1)))), (5, .int (lvI 0 (bsf g p a) (fls (fre g) (bsf g p a) (k + 1)))), (6, .int (nI (k + 1)))], [], (am_sh, am_up2 I 87 p (nI k), J)) := by
        rw [b_X9_best_85, fls_s, if_pos hP]
        cases hf : fls (fre g) (bsf g p a) k with
        | none => simp (disch := omega) only [oI, lvI, b_X9_best_99, b_X9_best_104, b_X9_best_118, b_X9_best_132, b_X9_best_134, Option.bind_some, am_k_v, am_k_n, ↓n_in, nI_clamp, i_p1, nI_leI, nI_ltI, nI_eq, n_lt0, n_le0, n_eq0, n_gt0, n_lm, n_em, n_me, n_mlt, false_or, or_false, true_or, or_true, false_and, and_false, true_and, and_true, not_false_eq_true, not_true_eq_false, if_true, if_false, if_pos, if_neg, am_b01, am_b0, am_b1, ne_eq, eq_self, reduceCtorEq, rng_t, Bool.and_true, Bool.and_false, Bool.true_and, Bool.false_and, ite_rgI, if_pos rfl, show ((-1 : Int32) < 0) = True from by decide, show ((1 : Int32) = 0) = False from by decide]
        | some i =>
          have b5 : bsf g p a i ≤ 5760 := bsf_le B
          have b6 := fls_lt hf
          simp (disch := omega) only [oI, lvI, b_X9_best_99, b_X9_best_104, b_X9_best_118, b_X9_best_132, b_X9_best_134, Option.bind_some, am_k_v, am_k_n, ↓n_in, nI_clamp, i_p1, nI_leI, nI_ltI, nI_eq, n_lt0, n_le0, n_eq0, n_gt0, n_lm, n_em, n_me, n_mlt, false_or, or_false, true_or, or_true, false_and, and_false, true_and, and_true, not_false_eq_true, not_true_eq_false, if_true, if_false, if_pos, if_neg, am_b01, am_b0, am_b1, ne_eq, eq_self, reduceCtorEq, rng_t, Bool.and_true, Bool.and_false, Bool.true_and, Bool.false_and, ite_rgI, if_pos rfl, show ((1 : Int32) = 0) = False from by decide]
          by_cases h1 : bsf g p a k < bsf g p a i
          · rw [if_neg (show ¬ bsf g p a i ≤ bsf g p a k by omega), if_pos h1]
          · rw [if_pos (show bsf g p a i ≤ bsf g p a k by omega), if_neg h1]
      rw [sp_worst Mk Bk Ck hp, sp_mean0 Mk Bk Ck hp, Option.bind_some, Option.bind_some, am_k_v, am_k_v, b_X9_best_77, mnP_A, wsP_A]
      by_cases ha : a = 0
      · rw [if_neg (by rw [ha]; simp), show mnN g p k (tl g p) none = bsf g p a k by unfold bsf; rw [if_pos ha]]
        exact e85
      · rw [if_pos ha, show wsN g p k = bsf g p a k by unfold bsf; rw [if_neg ha]]
        exact e85
    · have hP : ¬ fre g k = true := fun q => h0 (of_decide_eq_true q)
      rw [if_pos (by omega), if_neg hP, b_X9_best_134, fls_s, if_neg hP, i_p1]
  · try dsimp only
    rw [b_X9_best_41, sp_cells]
    obtain ⟨i, hi⟩ := fls_some (f := bsf g p a) hfr b2.2.2.2
    have hi2 := fls_lt hi
    simp (disch := omega) only [b_X9_best_47, Option.bind_some, am_k_v, am_k_n, ↓n_in, nI_clamp, i_p1, nI_leI, nI_ltI, nI_eq, n_lt0, n_le0, n_eq0, n_gt0, n_lm, n_em, n_me, n_mlt, false_or, or_false, true_or, or_true, false_and, and_false, true_and, and_true, not_false_eq_true, not_true_eq_false, if_true, if_false, if_pos, if_neg, am_b01, am_b0, am_b1, ne_eq, eq_self, reduceCtorEq, rng_t, Bool.and_true, Bool.and_false, Bool.true_and, Bool.false_and, ite_rgI, if_pos rfl, up_ne, rm_W M, rm_D M, pk_mul, up_up, up_self, hi, oI, lvI, sp_told10 M B, b_X9_best_153]
theorem pu_best (H : Inv I J) (p a : Int32) : StpC Ls xs 88 52 [(0, .ref 0), (1, .int p), (2, .int a)] [(0, .ref 81), (1, .int p), (2, .int a)] I J := by
  obtain ⟨g, r, S, Q, ⟨X, XQ, D⟩, ⟨M, MQ, C⟩⟩ := id H
  have B := S.1
  have b1 := bg_1 B
  rcases rng_or (gP g) (by omega) p with ⟨p, hp, rfl⟩ | hp
  · cases hr : rgI 0 1 a
    · refine stp_pure H (v := -1000000002) ?_ ?_
      · simp (disch := omega) only [b_X8_best_0, b_X8_best_8, b_X8_best_23, Option.bind_some, am_k_v, am_k_n, ↓n_in, nI_clamp, i_p1, nI_leI, nI_ltI, nI_eq, n_lt0, n_le0, n_eq0, n_gt0, n_lm, n_em, n_me, n_mlt, false_or, or_false, true_or, or_true, false_and, and_false, true_and, and_true, not_false_eq_true, not_true_eq_false, if_true, if_false, if_pos, if_neg, am_b01, am_b0, am_b1, ne_eq, eq_self, reduceCtorEq, rng_t, Bool.and_true, Bool.and_false, Bool.true_and, Bool.false_and, ite_rgI, if_pos rfl, sx_personA X, hr]
      · simp (disch := omega) only [b_X9_best_0, b_X9_best_5, b_X9_best_19, Option.bind_some, am_k_v, am_k_n, ↓n_in, nI_clamp, i_p1, nI_leI, nI_ltI, nI_eq, n_lt0, n_le0, n_eq0, n_gt0, n_lm, n_em, n_me, n_mlt, false_or, or_false, true_or, or_true, false_and, and_false, true_and, and_true, not_false_eq_true, not_true_eq_false, if_true, if_false, if_pos, if_neg, am_b01, am_b0, am_b1, ne_eq, eq_self, reduceCtorEq, rng_t, Bool.and_true, Bool.and_false, Bool.true_and, Bool.false_and, ite_rgI, if_pos rfl, sp_personA M B, sp_in_0_1, hr]
    · have b2 := bg_p B hp
      have hfr : fre g (gA g p) = true := decide_eq_true (S.2.1 p hp)
      obtain ⟨i, hi⟩ := fls_some (f := bsf g p a) hfr b2.2.2.2
      have hi2 := fls_lt hi
      refine stp_pure H (v := nI (nam g i)) ?_ ?_
      · simp (disch := omega) only [b_X8_best_0, b_X8_best_8, b_X8_best_23, Option.bind_some, am_k_v, am_k_n, ↓n_in, nI_clamp, i_p1, nI_leI, nI_ltI, nI_eq, n_lt0, n_le0, n_eq0, n_gt0, n_lm, n_em, n_me, n_mlt, false_or, or_false, true_or, or_true, false_and, and_false, true_and, and_true, not_false_eq_true, not_true_eq_false, if_true, if_false, if_pos, if_neg, am_b01, am_b0, am_b1, ne_eq, eq_self, reduceCtorEq, rng_t, Bool.and_true, Bool.and_false, Bool.true_and, Bool.false_and, ite_rgI, if_pos rfl, sx_personA X, hr, sx_bestFor X B D hp, hi, oI, b_X8_best_39, sx_nameOf X B, b_X8_best_42]
      · have e := sp_bestL (Ls := Ls) (xs := xs) (J := J) M B C hp hfr a
        rw [hi] at e
        simp (disch := omega) only [b_X9_best_0, b_X9_best_5, b_X9_best_19, Option.bind_some, am_k_v, am_k_n, ↓n_in, nI_clamp, i_p1, nI_leI, nI_ltI, nI_eq, n_lt0, n_le0, n_eq0, n_gt0, n_lm, n_em, n_me, n_mlt, false_or, or_false, true_or, or_true, false_and, and_false, true_and, and_true, not_false_eq_true, not_true_eq_false, if_true, if_false, if_pos, if_neg, am_b01, am_b0, am_b1, ne_eq, eq_self, reduceCtorEq, rng_t, Bool.and_true, Bool.and_false, Bool.true_and, Bool.false_and, ite_rgI, if_pos rfl, sp_personA M B, sp_in_0_1, hr]
        exact e
  · refine stp_pure H (v := -1000000001) ?_ ?_
    · simp (disch := omega) only [b_X8_best_0, b_X8_best_8, b_X8_best_23, Option.bind_some, am_k_v, am_k_n, ↓n_in, nI_clamp, i_p1, nI_leI, nI_ltI, nI_eq, n_lt0, n_le0, n_eq0, n_gt0, n_lm, n_em, n_me, n_mlt, false_or, or_false, true_or, or_true, false_and, and_false, true_and, and_true, not_false_eq_true, not_true_eq_false, if_true, if_false, if_pos, if_neg, am_b01, am_b0, am_b1, ne_eq, eq_self, reduceCtorEq, rng_t, Bool.and_true, Bool.and_false, Bool.true_and, Bool.false_and, ite_rgI, if_pos rfl, sx_personA X, hp]
    · simp (disch := omega) only [b_X9_best_0, b_X9_best_5, b_X9_best_19, Option.bind_some, am_k_v, am_k_n, ↓n_in, nI_clamp, i_p1, nI_leI, nI_ltI, nI_eq, n_lt0, n_le0, n_eq0, n_gt0, n_lm, n_em, n_me, n_mlt, false_or, or_false, true_or, or_true, false_and, and_false, true_and, and_true, not_false_eq_true, not_true_eq_false, if_true, if_false, if_pos, if_neg, am_b01, am_b0, am_b1, ne_eq, eq_self, reduceCtorEq, rng_t, Bool.and_true, Bool.and_false, Bool.true_and, Bool.false_and, ite_rgI, if_pos rfl, sp_personA M B, hp]
end
