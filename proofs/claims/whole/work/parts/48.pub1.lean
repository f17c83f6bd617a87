/-! PUBLIC CALLS THAT CHANGE NOTHING -/
def rgI (lo hi a : Int32) : Bool := decide (lo.toInt ≤ a.toInt ∧ a.toInt ≤ hi.toInt)
theorem ite_rgI {α : Type} {lo hi a : Int32} {T E : α} : (if a < lo then E else if a ≤ hi then T else E) = if rgI lo hi a = true then T else E := by
  unfold rgI
  by_cases h1 : a < lo
  · rw [if_pos h1, if_neg (by rw [i_ltN] at h1; rw [decide_eq_true_eq]; omega)]
  · rw [if_neg h1]
    by_cases h2 : a ≤ hi
    · rw [if_pos h2, if_pos (by rw [i_ltN] at h1; rw [i_leN] at h2; rw [decide_eq_true_eq]; omega)]
    · rw [if_neg h2, if_neg (by rw [i_leN] at h2; rw [decide_eq_true_eq]; omega)]
theorem rgI_n {lo hi : Int32} {m n : Nat} (h1 : lo.toInt = m) (h2 : hi.toInt = n) {a : Int32} (h : rgI lo hi a = true) : ∃ j, m ≤ j ∧ j ≤ n ∧ a = nI j := by
  have := of_decide_eq_true h
  have hr : a.toInt < 2147483648 := by have := Int32.toInt_lt a; omega
  refine ⟨a.toInt.toNat, by omega, by omega, ?_⟩
  exact i_eqN (by omega) (by omega)
theorem ret_ite {c : Prop} {i : Decidable c} {A B : Int32} {M : AmM} : @ite (Option AmRes) c i (some (some (.int A), M)) (some (some (.int B), M)) = some (some (.int (@ite Int32 c i A B)), M) := by
  cases i <;> rfl
section
variable {Ls : Nat} {xs : Nat → Int32} {g : Vg} {r : Vr} {I : Nat → Nat → Int32} {J : Nat → Nat → Int64}
theorem sp_in_0_1 (a : Int32) : am_ev (am_tbl Ls xs) 1 (0, [(0, .long (Int32.toInt64 a)), (2, .long 0), (4, .long 1)], [], (am_sh, I, J)) = some (some (.int (am_b (rgI 0 1 a))), (am_sh, I, J)) := by
  rw [sp_in]
  unfold rgI
  rw [decide_eq_decide.mpr (show (¬ Int32.toInt64 a < 0 ∧ ¬ (1 : Int64) < Int32.toInt64 a) ↔ (((0 : Int32)).toInt ≤ a.toInt ∧ a.toInt ≤ ((1 : Int32)).toInt) by
    rw [Int64.lt_iff_toInt_lt, Int64.lt_iff_toInt_lt, Int32.toInt_toInt64, show (0 : Int64).toInt = 0 from rfl, show (1 : Int64).toInt = 1 from rfl, show (0 : Int32).toInt = 0 from rfl, show (1 : Int32).toInt = 1 from rfl]; omega)]
theorem sp_in_0_9 (a : Int32) : am_ev (am_tbl Ls xs) 1 (0, [(0, .long (Int32.toInt64 a)), (2, .long 0), (4, .long 9)], [], (am_sh, I, J)) = some (some (.int (am_b (rgI 0 9 a))), (am_sh, I, J)) := by
  rw [sp_in]
  unfold rgI
  rw [decide_eq_decide.mpr (show (¬ Int32.toInt64 a < 0 ∧ ¬ (9 : Int64) < Int32.toInt64 a) ↔ (((0 : Int32)).toInt ≤ a.toInt ∧ a.toInt ≤ ((9 : Int32)).toInt) by
    rw [Int64.lt_iff_toInt_lt, Int64.lt_iff_toInt_lt, Int32.toInt_toInt64, show (0 : Int64).toInt = 0 from rfl, show (9 : Int64).toInt = 9 from rfl, show (0 : Int32).toInt = 0 from rfl, show (9 : Int32).toInt = 9 from rfl]; omega)]
theorem sp_in_1_9 (a : Int32) : am_ev (am_tbl Ls xs) 1 (0, [(0, .long (Int32.toInt64 a)), (2, .long 1), (4, .long 9)], [], (am_sh, I, J)) = some (some (.int (am_b (rgI 1 9 a))), (am_sh, I, J)) := by
  rw [sp_in]
  unfold rgI
  rw [decide_eq_decide.mpr (show (¬ Int32.toInt64 a < 1 ∧ ¬ (9 : Int64) < Int32.toInt64 a) ↔ (((1 : Int32)).toInt ≤ a.toInt ∧ a.toInt ≤ ((9 : Int32)).toInt) by
    rw [Int64.lt_iff_toInt_lt, Int64.lt_iff_toInt_lt, Int32.toInt_toInt64, show (1 : Int64).toInt = 1 from rfl, show (9 : Int64).toInt = 9 from rfl, show (1 : Int32).toInt = 1 from rfl, show (9 : Int32).toInt = 9 from rfl]; omega)]
theorem sp_in_0_99 (a : Int32) : am_ev (am_tbl Ls xs) 1 (0, [(0, .long (Int32.toInt64 a)), (2, .long 0), (4, .long 99)], [], (am_sh, I, J)) = some (some (.int (am_b (rgI 0 99 a))), (am_sh, I, J)) := by
  rw [sp_in]
  unfold rgI
  rw [decide_eq_decide.mpr (show (¬ Int32.toInt64 a < 0 ∧ ¬ (99 : Int64) < Int32.toInt64 a) ↔ (((0 : Int32)).toInt ≤ a.toInt ∧ a.toInt ≤ ((99 : Int32)).toInt) by
    rw [Int64.lt_iff_toInt_lt, Int64.lt_iff_toInt_lt, Int32.toInt_toInt64, show (0 : Int64).toInt = 0 from rfl, show (99 : Int64).toInt = 99 from rfl, show (0 : Int32).toInt = 0 from rfl, show (99 : Int32).toInt = 99 from rfl]; omega)]
theorem sp_in_1_8 (a : Int32) : am_ev (am_tbl Ls xs) 1 (0, [(0, .long (Int32.toInt64 a)), (2, .long 1), (4, .long 8)], [], (am_sh, I, J)) = some (some (.int (am_b (rgI 1 8 a))), (am_sh, I, J)) := by
  rw [sp_in]
  unfold rgI
  rw [decide_eq_decide.mpr (show (¬ Int32.toInt64 a < 1 ∧ ¬ (8 : Int64) < Int32.toInt64 a) ↔ (((1 : Int32)).toInt ≤ a.toInt ∧ a.toInt ≤ ((8 : Int32)).toInt) by
    rw [Int64.lt_iff_toInt_lt, Int64.lt_iff_toInt_lt, Int32.toInt_toInt64, show (1 : Int64).toInt = 1 from rfl, show (8 : Int64).toInt = 8 from rfl, show (1 : Int32).toInt = 1 from rfl, show (8 : Int32).toInt = 8 from rfl]; omega)]
theorem sp_in_1_99 (a : Int32) : am_ev (am_tbl Ls xs) 1 (0, [(0, .long (Int32.toInt64 a)), (2, .long 1), (4, .long 99)], [], (am_sh, I, J)) = some (some (.int (am_b (rgI 1 99 a))), (am_sh, I, J)) := by
  rw [sp_in]
  unfold rgI
  rw [decide_eq_decide.mpr (show (¬ Int32.toInt64 a < 1 ∧ ¬ (99 : Int64) < Int32.toInt64 a) ↔ (((1 : Int32)).toInt ≤ a.toInt ∧ a.toInt ≤ ((99 : Int32)).toInt) by
    rw [Int64.lt_iff_toInt_lt, Int64.lt_iff_toInt_lt, Int32.toInt_toInt64, show (1 : Int64).toInt = 1 from rfl, show (99 : Int64).toInt = 99 from rfl, show (1 : Int32).toInt = 1 from rfl, show (99 : Int32).toInt = 99 from rfl]; omega)]
theorem stp_pure (H : Inv I J) {kx km : Nat} {ax am : AmLs} {v : Int32} (h1 : am_ev (am_tbl Ls xs) kx (0, ax, [], (am_sh, I, J)) = some (some (.int v), (am_sh, I, J))) (h2 : am_ev (am_tbl Ls xs) km (0, am, [], (am_sh, I, J)) = some (some (.int v), (am_sh, I, J))) : StpC Ls xs kx km ax am I J := ⟨v, I, J, I, J, h1, h2, H⟩
theorem pu_fault (H : Inv I J) : StpC Ls xs 78 26 [(0, .ref 0)] [(0, .ref 81)] I J := by
  obtain ⟨g, r, S, Q, ⟨X, XQ, D⟩, ⟨M, MQ, C⟩⟩ := id H
  refine stp_pure H (v := qF r) ?_ ?_
  · rw [b_X8_fault_0, XQ.1.2.1]
  · rw [b_X9_fault_0, MQ.1.2.1]
theorem pu_told (H : Inv I J) (a : Int32) : StpC Ls xs 79 36 [(0, .ref 0), (1, .int a)] [(0, .ref 81), (1, .int a)] I J := by
  obtain ⟨g, r, S, Q, ⟨X, XQ, D⟩, ⟨M, MQ, C⟩⟩ := id H
  have B := S.1
  obtain ⟨x1, x2, x3, x4, x5, x6, x7⟩ := XQ.1
  obtain ⟨m1, m2, m3, m4, m5, m6⟩ := MQ.1
  refine stp_pure H (v := if a = 0 then nI (gW g) else if a = 1 then nI (gD g) else if a = 2 then nI (gN g) else if a = 3 then nI (gP g) else if a = 4 then nI (qN r) else if a = 5 then nI (gR g) else if a = 6 then gM g else if a = 7 then nI (eN r) else if a = 8 then nI (tN r) else if a = 9 then nI (bN r) else if a = 10 then nI (mnA g) else if a = 11 then nI (qG r) else -1000000002) ?_ ?_
  · rw [b_X8_told_0, sx_meanOfAll X B D, Option.bind_some, am_k_v, b_X8_told_151, rx_W X, rx_D X, rx_N X, rx_P X, rx_R X, rx_M X, x1, x3, x4, x5, x6]
    simp only [ret_ite]
  · rw [b_X9_told_0, sp_meanAll M B C, Option.bind_some, am_k_v, b_X9_told_118, rm_W M, rm_D M, rm_N M, rm_P M, rm_R M, rm_M M, m1, m3, m4, m5, m6]
    simp only [ret_ite]
theorem pu_owed (H : Inv I J) (p h : Int32) : StpC Ls xs 82 41 [(0, .ref 0), (1, .int p), (2, .int h)] [(0, .ref 81), (1, .int p), (2, .int h)] I J := by
  obtain ⟨g, r, S, Q, ⟨X, XQ, D⟩, ⟨M, MQ, C⟩⟩ := id H
  have B := S.1
  have b1 := bg_1 B
  rcases rng_or (gP g) (by omega) p with ⟨p, hp, rfl⟩ | hp
  · rcases rng_or (gN g) (by omega) h with ⟨h, hh, rfl⟩ | hh
    · have b2 := bg_p B hp
      refine stp_pure H (v := nI (owN g p (gA g p) (tl g p) none h)) ?_ ?_
      · simp (disch := omega) only [b_X8_owed_0, b_X8_owed_8, b_X8_owed_22, b_X8_owed_19, b_X8_owed_43, Option.bind_some, am_k_v, am_k_n, ↓n_in, nI_clamp, i_p1, nI_leI, nI_ltI, nI_eq, n_lt0, n_le0, n_eq0, n_gt0, n_lm, n_em, n_me, n_mlt, false_or, or_false, true_or, or_true, false_and, and_false, true_and, and_true, not_false_eq_true, not_true_eq_false, if_true, if_false, if_pos, if_neg, am_b01, am_b0, am_b1, ne_eq, eq_self, reduceCtorEq, rng_t, Bool.and_true, Bool.and_false, Bool.true_and, Bool.false_and, ite_rgI, if_pos rfl, sx_personA X, sx_hourA X, rx_A X, sx_owedAt X B D]
      · simp (disch := omega) only [b_X9_owed_0, b_X9_owed_5, b_X9_owed_25, b_X9_owed_13, b_X9_owed_28, b_X9_owed_22, Option.bind_some, am_k_v, am_k_n, ↓n_in, nI_clamp, i_p1, nI_leI, nI_ltI, nI_eq, n_lt0, n_le0, n_eq0, n_gt0, n_lm, n_em, n_me, n_mlt, false_or, or_false, true_or, or_true, false_and, and_false, true_and, and_true, not_false_eq_true, not_true_eq_false, if_true, if_false, if_pos, if_neg, am_b01, am_b0, am_b1, ne_eq, eq_self, reduceCtorEq, rng_t, Bool.and_true, Bool.and_false, Bool.true_and, Bool.false_and, ite_rgI, if_pos rfl, sp_personA M B, sp_hourA M B, sp_owed0 M B C]
    · refine stp_pure H (v := -1000000001) ?_ ?_
      · simp (disch := omega) only [b_X8_owed_0, b_X8_owed_8, b_X8_owed_22, b_X8_owed_19, b_X8_owed_43, Option.bind_some, am_k_v, am_k_n, ↓n_in, nI_clamp, i_p1, nI_leI, nI_ltI, nI_eq, n_lt0, n_le0, n_eq0, n_gt0, n_lm, n_em, n_me, n_mlt, false_or, or_false, true_or, or_true, false_and, and_false, true_and, and_true, not_false_eq_true, not_true_eq_false, if_true, if_false, if_pos, if_neg, am_b01, am_b0, am_b1, ne_eq, eq_self, reduceCtorEq, rng_t, Bool.and_true, Bool.and_false, Bool.true_and, Bool.false_and, ite_rgI, if_pos rfl, sx_personA X, sx_hourA X, hh]
      · simp (disch := omega) only [b_X9_owed_0, b_X9_owed_5, b_X9_owed_25, b_X9_owed_13, b_X9_owed_28, b_X9_owed_22, Option.bind_some, am_k_v, am_k_n, ↓n_in, nI_clamp, i_p1, nI_leI, nI_ltI, nI_eq, n_lt0, n_le0, n_eq0, n_gt0, n_lm, n_em, n_me, n_mlt, false_or, or_false, true_or, or_true, false_and, and_false, true_and, and_true, not_false_eq_true, not_true_eq_false, if_true, if_false, if_pos, if_neg, am_b01, am_b0, am_b1, ne_eq, eq_self, reduceCtorEq, rng_t, Bool.and_true, Bool.and_false, Bool.true_and, Bool.false_and, ite_rgI, if_pos rfl, sp_personA M B, sp_hourA M B, hh]
  · refine stp_pure H (v := -1000000001) ?_ ?_
    · simp (disch := omega) only [b_X8_owed_0, b_X8_owed_8, b_X8_owed_22, b_X8_owed_19, b_X8_owed_43, Option.bind_some, am_k_v, am_k_n, ↓n_in, nI_clamp, i_p1, nI_leI, nI_ltI, nI_eq, n_lt0, n_le0, n_eq0, n_gt0, n_lm, n_em, n_me, n_mlt, false_or, or_false, true_or, or_true, false_and, and_false, true_and, and_true, not_false_eq_true, not_true_eq_false, if_true, if_false, if_pos, if_neg, am_b01, am_b0, am_b1, ne_eq, eq_self, reduceCtorEq, rng_t, Bool.and_true, Bool.and_false, Bool.true_and, Bool.false_and, ite_rgI, if_pos rfl, sx_personA X, sx_hourA X, hp]
    · simp (disch := omega) only [b_X9_owed_0, b_X9_owed_5, b_X9_owed_25, b_X9_owed_13, b_X9_owed_28, b_X9_owed_22, Option.bind_some, am_k_v, am_k_n, ↓n_in, nI_clamp, i_p1, nI_leI, nI_ltI, nI_eq, n_lt0, n_le0, n_eq0, n_gt0, n_lm, n_em, n_me, n_mlt, false_or, or_false, true_or, or_true, false_and, and_false, true_and, and_true, not_false_eq_true, not_true_eq_false, if_true, if_false, if_pos, if_neg, am_b01, am_b0, am_b1, ne_eq, eq_self, reduceCtorEq, rng_t, Bool.and_true, Bool.and_false, Bool.true_and, Bool.false_and, ite_rgI, if_pos rfl, sp_personA M B, sp_hourA M B, hp]
theorem pu_cell (H : Inv I J) (x y h a : Int32) : StpC Ls xs 80 39 [(0, .ref 0), (1, .int x), (2, .int y), (3, .int h), (4, .int a)] [(0, .ref 81), (1, .int x), (2, .int y), (3, .int h), (4, .int a)] I J := by
  obtain ⟨g, r, S, Q, ⟨X, XQ, D⟩, ⟨M, MQ, C⟩⟩ := id H
  have B := S.1
  have b1 := bg_1 B
  by_cases hxy : rng (gW g) x = false ∨ rng (gD g) y = false
  · refine stp_pure H (v := -1000000001) ?_ ?_
    · simp (disch := omega) only [b_X8_cell_0, b_X8_cell_9, b_X8_cell_28, b_X8_cell_25, b_X8_cell_85, b_X8_cell_104, b_X8_cell_115, b_X8_cell_93, Option.bind_some, am_k_v, am_k_n, ↓n_in, nI_clamp, i_p1, nI_leI, nI_ltI, nI_eq, n_lt0, n_le0, n_eq0, n_gt0, n_lm, n_em, n_me, n_mlt, false_or, or_false, true_or, or_true, false_and, and_false, true_and, and_true, not_false_eq_true, not_true_eq_false, if_true, if_false, if_pos, if_neg, am_b01, am_b0, am_b1, ne_eq, eq_self, reduceCtorEq, rng_t, Bool.and_true, Bool.and_false, Bool.true_and, Bool.false_and, ite_rgI, if_pos rfl, sx_cellAtF X B hxy]
    · have : (rng (gW g) x && rng (gD g) y) = false := by rcases hxy with q | q <;> rw [q] <;> simp
      simp (disch := omega) only [b_X9_cell_0, b_X9_cell_6, b_X9_cell_17, b_X9_cell_14, b_X9_cell_77, b_X9_cell_98, b_X9_cell_106, b_X9_cell_82, b_X9_cell_90, Option.bind_some, am_k_v, am_k_n, ↓n_in, nI_clamp, i_p1, nI_leI, nI_ltI, nI_eq, n_lt0, n_le0, n_eq0, n_gt0, n_lm, n_em, n_me, n_mlt, false_or, or_false, true_or, or_true, false_and, and_false, true_and, and_true, not_false_eq_true, not_true_eq_false, if_true, if_false, if_pos, if_neg, am_b01, am_b0, am_b1, ne_eq, eq_self, reduceCtorEq, rng_t, Bool.and_true, Bool.and_false, Bool.true_and, Bool.false_and, ite_rgI, if_pos rfl, sp_cellA M B, this]
  · rcases rng_or (gW g) (by omega) x with ⟨x, hx, rfl⟩ | hx
    · rcases rng_or (gD g) (by omega) y with ⟨y, hy, rfl⟩ | hy
      · have hc := cix_lt hx hy
        rcases rng_or (gN g) (by omega) h with ⟨h, hh, rfl⟩ | hh
        · refine stp_pure H (v := if a = 0 then nI (gH g (cix g x y)) else if a = 1 then am_b (hbt (dk g h) (cix g x y)) else if a = 2 then nI (csn g (cix g x y) h (gP g)) else if a = 3 then oI (pyN g (cix g x y) h) else -1000000002) ?_ ?_
          · simp (disch := omega) only [b_X8_cell_0, b_X8_cell_9, b_X8_cell_25, b_X8_cell_28, Option.bind_some, am_k_v, am_k_n, ↓n_in, nI_clamp, i_p1, nI_leI, nI_ltI, nI_eq, n_lt0, n_le0, n_eq0, n_gt0, n_lm, n_em, n_me, n_mlt, false_or, or_false, true_or, or_true, false_and, and_false, true_and, and_true, not_false_eq_true, not_true_eq_false, if_true, if_false, if_pos, if_neg, am_b01, am_b0, am_b1, ne_eq, eq_self, reduceCtorEq, rng_t, Bool.and_true, Bool.and_false, Bool.true_and, Bool.false_and, ite_rgI, if_pos rfl, sx_cellAtT X B hx hy, sx_hourA X, rx_H X, sx_isDark X B D, sx_casters X B D, sx_owerN X B D, b_X8_cell_85, b_X8_cell_104, b_X8_cell_115, b_X8_cell_93]
            cases hb : hbt (dk g h) (cix g x y) <;> simp only [ret_ite, reduceCtorEq, eq_self, if_true, if_false, am_b]
          · simp (disch := omega) only [b_X9_cell_0, b_X9_cell_6, b_X9_cell_14, b_X9_cell_17, Option.bind_some, am_k_v, am_k_n, ↓n_in, nI_clamp, i_p1, nI_leI, nI_ltI, nI_eq, n_lt0, n_le0, n_eq0, n_gt0, n_lm, n_em, n_me, n_mlt, false_or, or_false, true_or, or_true, false_and, and_false, true_and, and_true, not_false_eq_true, not_true_eq_false, if_true, if_false, if_pos, if_neg, am_b01, am_b0, am_b1, ne_eq, eq_self, reduceCtorEq, rng_t, Bool.and_true, Bool.and_false, Bool.true_and, Bool.false_and, ite_rgI, if_pos rfl, sp_cellA M B, sp_hourA M B, rm_W M, m_cix, rm_H M, sp_dk M B, sp_casters M B C, sp_payer M B C, sp_has, hb_has, b_X9_cell_77, b_X9_cell_82, b_X9_cell_98, b_X9_cell_106, b_X9_cell_90]
            cases hb : hbt (dk g h) (cix g x y) <;> simp only [ret_ite, reduceCtorEq, eq_self, if_true, if_false, am_b]
        · refine stp_pure H (v := -1000000001) ?_ ?_
          · simp (disch := omega) only [b_X8_cell_0, b_X8_cell_9, b_X8_cell_25, b_X8_cell_28, Option.bind_some, am_k_v, am_k_n, ↓n_in, nI_clamp, i_p1, nI_leI, nI_ltI, nI_eq, n_lt0, n_le0, n_eq0, n_gt0, n_lm, n_em, n_me, n_mlt, false_or, or_false, true_or, or_true, false_and, and_false, true_and, and_true, not_false_eq_true, not_true_eq_false, if_true, if_false, if_pos, if_neg, am_b01, am_b0, am_b1, ne_eq, eq_self, reduceCtorEq, rng_t, Bool.and_true, Bool.and_false, Bool.true_and, Bool.false_and, ite_rgI, if_pos rfl, sx_cellAtT X B hx hy, sx_hourA X, hh]
          · simp (disch := omega) only [b_X9_cell_0, b_X9_cell_6, b_X9_cell_14, b_X9_cell_17, Option.bind_some, am_k_v, am_k_n, ↓n_in, nI_clamp, i_p1, nI_leI, nI_ltI, nI_eq, n_lt0, n_le0, n_eq0, n_gt0, n_lm, n_em, n_me, n_mlt, false_or, or_false, true_or, or_true, false_and, and_false, true_and, and_true, not_false_eq_true, not_true_eq_false, if_true, if_false, if_pos, if_neg, am_b01, am_b0, am_b1, ne_eq, eq_self, reduceCtorEq, rng_t, Bool.and_true, Bool.and_false, Bool.true_and, Bool.false_and, ite_rgI, if_pos rfl, sp_cellA M B, sp_hourA M B, hh]
      · exact absurd (Or.inr hy) hxy
    · exact absurd (Or.inl hx) hxy
theorem pu_person (H : Inv I J) (p a : Int32) : StpC Ls xs 81 40 [(0, .ref 0), (1, .int p), (2, .int a)] [(0, .ref 81), (1, .int p), (2, .int a)] I J := by
  obtain ⟨g, r, S, Q, ⟨X, XQ, D⟩, ⟨M, MQ, C⟩⟩ := id H
  have B := S.1
  have b1 := bg_1 B
  rcases rng_or (gP g) (by omega) p with ⟨p, hp, rfl⟩ | hp
  · have b2 := bg_p B hp
    have e3 : am_ev (am_tbl Ls xs) 29 (0, [(0, .ref 81), (1, .int (nI p))], [], (am_sh, I, J)) = some (some (.int (nI (tl g p))), (am_sh, I, J)) := by
      rw [sp_tall I J (show p < 6 by omega), mtall_N M B (mC_0 C) (fun y q => by cases q) hp, tlc_0]
    refine stp_pure H (v := if a = 0 then nI (gA g p % gW g) else if a = 1 then nI (gA g p / gW g) else if a = 2 then nI (tl g p) else if a = 3 then nI (gF g p) else if a = 4 then gU g p else if a = 5 then nI (mnP g p) else if a = 6 then nI (wsN g p (gA g p)) else -1000000002) ?_ ?_
    · simp (disch := omega) only [b_X8_person_0, b_X8_person_8, b_X8_person_72, b_X8_person_89, b_X8_person_98, b_X8_person_127, b_X8_person_145, Option.bind_some, am_k_v, am_k_n, ↓n_in, nI_clamp, i_p1, nI_leI, nI_ltI, nI_eq, n_lt0, n_le0, n_eq0, n_gt0, n_lm, n_em, n_me, n_mlt, false_or, or_false, true_or, or_true, false_and, and_false, true_and, and_true, not_false_eq_true, not_true_eq_false, if_true, if_false, if_pos, if_neg, am_b01, am_b0, am_b1, ne_eq, eq_self, reduceCtorEq, rng_t, Bool.and_true, Bool.and_false, Bool.true_and, Bool.false_and, ite_rgI, if_pos rfl, sx_personA X, rx_A X, rx_F X, rx_U X, sx_columnOf X B, sx_lineOf X B, sx_tall X B, sx_meanOf X B D, sx_worst X B D]
      simp only [ret_ite, eq_self, if_true, show (1 = 0) = False from by decide, if_false]; try rfl
    · simp (disch := omega) only [b_X9_person_0, b_X9_person_5, b_X9_person_85, b_X9_person_100, b_X9_person_113, b_X9_person_119, Option.bind_some, am_k_v, am_k_n, ↓n_in, nI_clamp, i_p1, nI_leI, nI_ltI, nI_eq, n_lt0, n_le0, n_eq0, n_gt0, n_lm, n_em, n_me, n_mlt, false_or, or_false, true_or, or_true, false_and, and_false, true_and, and_true, not_false_eq_true, not_true_eq_false, if_true, if_false, if_pos, if_neg, am_b01, am_b0, am_b1, ne_eq, eq_self, reduceCtorEq, rng_t, Bool.and_true, Bool.and_false, Bool.true_and, Bool.false_and, ite_rgI, if_pos rfl, sp_personA M B, rm_A M, rm_F M, rm_U M, rm_W M, n_rem, pk_div, pk_mul, e3, sp_mean0 M B C, sp_worst M B C]
      by_cases hf : gF g p = 0
      · rw [if_pos hf, hf]
        simp only [ret_ite, eq_self, if_true, show (1 = 0) = False from by decide, if_false]; try rfl
      · rw [if_neg hf, show gF g p = 1 by omega]
        simp only [ret_ite, eq_self, if_true, show (1 = 0) = False from by decide, if_false]; try rfl
  · refine stp_pure H (v := -1000000001) ?_ ?_
    · simp (disch := omega) only [b_X8_person_0, b_X8_person_8, b_X8_person_72, b_X8_person_89, b_X8_person_98, b_X8_person_127, b_X8_person_145, Option.bind_some, am_k_v, am_k_n, ↓n_in, nI_clamp, i_p1, nI_leI, nI_ltI, nI_eq, n_lt0, n_le0, n_eq0, n_gt0, n_lm, n_em, n_me, n_mlt, false_or, or_false, true_or, or_true, false_and, and_false, true_and, and_true, not_false_eq_true, not_true_eq_false, if_true, if_false, if_pos, if_neg, am_b01, am_b0, am_b1, ne_eq, eq_self, reduceCtorEq, rng_t, Bool.and_true, Bool.and_false, Bool.true_and, Bool.false_and, ite_rgI, if_pos rfl, sx_personA X, hp]
    · simp (disch := omega) only [b_X9_person_0, b_X9_person_5, b_X9_person_85, b_X9_person_100, b_X9_person_113, b_X9_person_119, Option.bind_some, am_k_v, am_k_n, ↓n_in, nI_clamp, i_p1, nI_leI, nI_ltI, nI_eq, n_lt0, n_le0, n_eq0, n_gt0, n_lm, n_em, n_me, n_mlt, false_or, or_false, true_or, or_true, false_and, and_false, true_and, and_true, not_false_eq_true, not_true_eq_false, if_true, if_false, if_pos, if_neg, am_b01, am_b0, am_b1, ne_eq, eq_self, reduceCtorEq, rng_t, Bool.and_true, Bool.and_false, Bool.true_and, Bool.false_and, ite_rgI, if_pos rfl, sp_personA M B, hp]
end
