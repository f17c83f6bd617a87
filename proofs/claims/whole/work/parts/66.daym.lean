/-! DAYS: the reference -/
section
variable {Ls : Nat} {xs : Nat → Int32} {g : Vg} {r : Vr} {I I' : Nat → Nat → Int32} {J : Nat → Nat → Int64}
theorem sp_till (M : RM g I) (B : BG g) {n : Nat} (hn : n ≤ gN g) : am_ev (am_tbl Ls xs) 48 (0, [(0, .ref 81), (1, .int (nI n))], [], (am_sh, I, J)) = some (some (.int (nI (shS g n))), (am_sh, I, J)) := by
  have b1 := bg_1 B
  rw [b_X9_sharesTill_0]
  refine (lp (N := n) (f := fun k => am_ev (am_tbl Ls xs) 48 (4, [(0, .ref 81), (1, .int (nI n)), (2, .int (nI (shS g k))), (3, .int (nI k))], [], (am_sh, I, J))) ?_).trans ?_
  · intro k hk
    try dsimp only
    rw [b_X9_sharesTill_4]
    simp (disch := omega) only [Option.bind_some, am_k_v, am_k_n, ↓n_in, nI_clamp, i_p1, nI_leI, nI_ltI, nI_eq, n_lt0, n_le0, n_eq0, n_gt0, n_lm, n_em, n_me, n_mlt, false_or, or_false, true_or, or_true, false_and, and_false, true_and, and_true, not_false_eq_true, not_true_eq_false, if_true, if_false, if_pos, if_neg, am_b01, am_b0, am_b1, ne_eq, eq_self, reduceCtorEq, rng_t, Bool.and_true, Bool.and_false, Bool.true_and, Bool.false_and, ite_rgI, if_pos rfl, rm_S M, nI_add]
    rfl
  · try dsimp only
    rw [b_X9_sharesTill_4]
    simp (disch := omega) only [Option.bind_some, am_k_v, am_k_n, ↓n_in, nI_clamp, i_p1, nI_leI, nI_ltI, nI_eq, n_lt0, n_le0, n_eq0, n_gt0, n_lm, n_em, n_me, n_mlt, false_or, or_false, true_or, or_true, false_and, and_false, true_and, and_true, not_false_eq_true, not_true_eq_false, if_true, if_false, if_pos, if_neg, am_b01, am_b0, am_b1, ne_eq, eq_self, reduceCtorEq, rng_t, Bool.and_true, Bool.and_false, Bool.true_and, Bool.false_and, ite_rgI, if_pos rfl]
theorem sp_payAt (M : RM g I) (S : BS g) (C : m0 I) {h : Nat} (hh : h < gN g) : ∃ I', am_ev (am_tbl Ls xs) 49 (0, [(0, .ref 81), (1, .int (nI h))], [], (am_sh, I, J)) = some (none, (am_sh, I', J)) ∧ RM (payK g h (gP g)) I' ∧ frN I I' := by
  have B := S.1
  have b1 := bg_1 B
  obtain ⟨I1, ⟨F1, W1⟩, e1⟩ := lpe (N := gP g) (f := fun k I' => am_ev (am_tbl Ls xs) 49 (2, [(0, .ref 81), (1, .int (nI h)), (2, .int (nI k))], [], (am_sh, I', J))) (V := fun k I' => (∀ q i, q ≠ 99 → I' q i = I q i) ∧ ∀ p, p < k → I' 99 p = nI (obW g p h)) (by
    intro k I1 hk ⟨F1, W1⟩
    have M1 : RM g I1 := rm_cong (fun q i hq => F1 q i (by unfold mS at hq; omega)) M
    have C1 : m0 I1 := m0_cong (fun q i hq => F1 q i (by unfold m4 at hq; omega)) C
    have ho := sp_owed0 (Ls := Ls) (xs := xs) (J := J) M1 B C1 hk hh
    refine ⟨am_up2 I1 99 k (nI (obW g k h)), ⟨fun q i hq => ?_, fun p hp => ?_⟩, ?_⟩
    · rw [up_ne (by omega)]; exact F1 q i hq
    · by_cases e : p = k
      · rw [e, up_eq]
      · rw [up_ne (by omega)]; exact W1 p (by omega)
    · try dsimp only
      rw [b_X9_payAt_2, rm_P M1, if_neg (nI_ge hk (by omega)), ho, Option.bind_some, am_k_v, b_X9_payAt_21]
      simp (disch := omega) only [Option.bind_some, am_k_v, am_k_n, ↓n_in, nI_clamp, i_p1, nI_leI, nI_ltI, nI_eq, n_lt0, n_le0, n_eq0, n_gt0, n_lm, n_em, n_me, n_mlt, false_or, or_false, true_or, or_true, false_and, and_false, true_and, and_true, not_false_eq_true, not_true_eq_false, if_true, if_false, if_pos, if_neg, am_b01, am_b0, am_b1, ne_eq, eq_self, reduceCtorEq, rng_t, Bool.and_true, Bool.and_false, Bool.true_and, Bool.false_and, ite_rgI, if_pos rfl]
      rfl) I ⟨fun _ _ _ => rfl, fun p hp => absurd hp (Nat.not_lt_zero p)⟩
  have M1 : RM g I1 := rm_cong (fun q i hq => F1 q i (by unfold mS at hq; omega)) M
  obtain ⟨I2, ⟨F2, X2⟩, e2⟩ := lpe (N := gP g) (f := fun k I' => am_ev (am_tbl Ls xs) 49 (30, [(0, .ref 81), (2, .int (nI k))], [], (am_sh, I', J))) (V := fun k I' => (∀ q i, (q ≠ 90 ∧ (q ≠ 81 ∨ i ≠ 14)) → I' q i = I1 q i) ∧ RM (payK g h k) I') (by
    intro k I2 hk ⟨F2, X2⟩
    have e99 : I2 99 k = nI (obW g k h) := (F2 99 k (by omega)).trans (W1 k hk)
    have eU : I2 90 k = gU g k := by
      have := rm_U (g := payK g h k) X2 hk
      rw [this]
      show (if k < k then _ else gU g k) = gU g k
      rw [if_neg (Nat.lt_irrefl k)]
    have eM : I2 81 14 = pyM g h k := rm_M (g := payK g h k) X2
    have eP : I2 81 8 = nI (gP g) := (F2 81 8 (by omega)).trans (rm_P M1)
    refine ⟨am_up2 (am_up2 I2 90 k (gU g k - nI (obW g k h))) 81 14 (pyM g h k + nI (obW g k h)), ⟨fun q i hq => ?_, ?_⟩, ?_⟩
    · rw [up_ne (by omega), up_ne (by omega)]; exact F2 q i hq
    · refine rm_Xs M (fun q i hq => ?_) (fun p hp => ?_) ?_ ?_
      · rw [up_ne (by omega), up_ne (by omega), F2 q i (by omega)]; exact F1 q i (by omega)
      · rw [up_ne (by omega)]
        by_cases e : p = k
        · rw [e, up_eq, if_pos (by omega)]
        · rw [up_ne (by omega)]
          have := rm_U (g := payK g h k) X2 hp
          rw [this]
          show (if p < k then _ else gU g p) = if p < k + 1 then _ else gU g p
          by_cases e2 : p < k
          · rw [if_pos e2, if_pos (by omega)]
          · rw [if_neg e2, if_neg (by omega)]
      · rw [up_eq]; rfl
      · rw [up_ne (by omega), up_ne (by omega)]; exact rm_E (g := payK g h k) X2
    · try dsimp only
      rw [b_X9_payAt_30]
      simp (disch := omega) only [Option.bind_some, am_k_v, am_k_n, ↓n_in, nI_clamp, i_p1, nI_leI, nI_ltI, nI_eq, n_lt0, n_le0, n_eq0, n_gt0, n_lm, n_em, n_me, n_mlt, false_or, or_false, true_or, or_true, false_and, and_false, true_and, and_true, not_false_eq_true, not_true_eq_false, if_true, if_false, if_pos, if_neg, am_b01, am_b0, am_b1, ne_eq, eq_self, reduceCtorEq, rng_t, Bool.and_true, Bool.and_false, Bool.true_and, Bool.false_and, ite_rgI, if_pos rfl, eP, eU, eM, e99]) I1 ⟨fun _ _ _ => rfl, rm_Xs M1 (fun _ _ _ => rfl) (fun p hp => (rm_U M1 hp).trans (if_neg (Nat.not_lt_zero p)).symm) (rm_M M1) (rm_E M1)⟩
  have eP : I2 81 8 = nI (gP g) := (F2 81 8 (by omega)).trans (rm_P M1)
  refine ⟨I2, ?_, X2, fun q i hq => (F2 q i (by omega)).trans (F1 q i (by omega))⟩
  rw [b_X9_payAt_0]
  refine Eq.trans e1 ?_
  try dsimp only
  rw [b_X9_payAt_2, rm_P M1, if_pos (nI_le (by omega) (by omega))]
  refine Eq.trans e2 ?_
  try dsimp only
  rw [b_X9_payAt_30, eP, if_pos (nI_le (by omega) (by omega))]
theorem sp_wander (X : RM g I) (S : BS g) : ∃ I', am_ev (am_tbl Ls xs) 50 (63, [(0, .ref 81), (1, .int 0)], [], (am_sh, I, J)) = some (none, (am_sh, I', J)) ∧ RM (wdL g (gP g)) I' ∧ frN I I' := by
  have B := S.1
  have b1 := bg_1 B
  obtain ⟨I1, ⟨F1, X1⟩, e1⟩ := lpe (N := gP g) (f := fun k I' => am_ev (am_tbl Ls xs) 50 (63, [(0, .ref 81), (1, .int (nI k))], [], (am_sh, I', J))) (V := fun k I' => frN I I' ∧ RM (wdL g k) I') (by
    intro k I1 hk ⟨F1, X1⟩
    have S1 := bs_wdL S k (by omega)
    have hP : gP (wdL g k) = gP g := gP_of (wdL_1 k).1
    show ∃ I2, (frN I I2 ∧ RM (wdS (wdL g k) k) I2) ∧ _
    generalize wdL g k = w at X1 S1 hP
    have hk2 : k < gP w := by omega
    have B1 := S1.1
    have c1 := bg_1 B1
    have c2 := bg_p B1 hk2
    have hd9 := dv_lt (g := w) (k := 9) (by omega)
    have hW : 0 < gW w := by
      rcases c1.2.2.2.2.2.2 with z | z
      · omega
      · omega
    have hm := Nat.mod_lt (gA w k) hW
    have hdv : gA w k / gW w < gD w := Nat.div_lt_of_lt_mul c2.2.2.2
    have XE := rm_setE (z := nI (nxt (se w))) X1
    have BE := (bs_dE S1).1
    have eA : am_up2 I1 81 16 (nI (nxt (se w))) 87 k = nI (gA w k) := rm_A (g := setE w (nI (nxt (se w)))) XE hk2
    have eW : am_up2 I1 81 16 (nI (nxt (se w))) 81 0 = nI (gW w) := rm_W (g := setE w (nI (nxt (se w)))) XE
    have hcel : am_ev (am_tbl Ls xs) 4 (0, [(0, .ref 81), (1, .int (nI (gA w k % gW w + dv w 9 % 3) - 1)), (2, .int (nI (gA w k / gW w + dv w 9 / 3) - 1))], [], (am_sh, am_up2 I1 81 16 (nI (nxt (se w))), J)) = some (some (.int (am_b (rng (gW w) (nI (gA w k % gW w + dv w 9 % 3) - 1) && rng (gD w) (nI (gA w k / gW w + dv w 9 / 3) - 1)))), (am_sh, am_up2 I1 81 16 (nI (nxt (se w))), J)) := sp_cellA (g := dE w) XE BE _ _
    rw [rng_1 (by omega) (by omega), rng_1 (by omega) (by omega)] at hcel
    have eP : I1 81 8 = nI (gP g) := (rm_P X1).trans (by rw [hP])
    have e127 : am_ev (am_tbl Ls xs) 50 (63, [(0, .ref 81), (1, .int (nI k))], [], (am_sh, I1, J)) = am_ev (am_tbl Ls xs) 50 (127, [(4, .int (nI (gA w k / gW w + dv w 9 / 3) - 1)), (3, .int (nI (gA w k % gW w + dv w 9 % 3) - 1)), (2, .int (nI (dv w 9))), (0, .ref 81), (1, .int (nI k))], [.int (am_b (decide (1 ≤ gA w k % gW w + dv w 9 % 3 ∧ gA w k % gW w + dv w 9 % 3 ≤ gW w) && decide (1 ≤ gA w k / gW w + dv w 9 / 3 ∧ gA w k / gW w + dv w 9 / 3 ≤ gD w))), .int (nI k), .ref 87], (am_sh, am_up2 I1 81 16 (nI (nxt (se w))), J)) := by
      rw [b_X9_dayNow_63, eP, if_neg (nI_ge hk (by omega)), show (9 : Int32) = nI 9 from rfl, sp_draw X1 S1 (by omega), Option.bind_some, am_k_v, b_X9_dayNow_77]
      simp (disch := omega) only [Option.bind_some, am_k_v, am_k_n, ↓n_in, nI_clamp, i_p1, nI_leI, nI_ltI, nI_eq, n_lt0, n_le0, n_eq0, n_gt0, n_lm, n_em, n_me, n_mlt, false_or, or_false, true_or, or_true, false_and, and_false, true_and, and_true, not_false_eq_true, not_true_eq_false, if_true, if_false, if_pos, if_neg, am_b01, am_b0, am_b1, ne_eq, eq_self, reduceCtorEq, rng_t, Bool.and_true, Bool.and_false, Bool.true_and, Bool.false_and, ite_rgI, if_pos rfl, eA, eW, show (3 : Int32) = nI 3 from rfl, pk_div, pk_mul, n_rem, nI_add, hcel]
    have estay : ∀ a1 : Nat, a1 = k → am_ev (am_tbl Ls xs) 50 (159, [(0, .ref 81), (1, .int (nI k))], [.int (nI k), .ref 87], (am_sh, am_up2 I1 81 16 (nI (nxt (se w))), J)) = am_ev (am_tbl Ls xs) 50 (63, [(0, .ref 81), (1, .int (nI (k + 1)))], [], (am_sh, am_up2 I1 81 16 (nI (nxt (se w))), J)) := fun _ _ => by
      rw [b_X9_dayNow_159]
      simp (disch := omega) only [Option.bind_some, am_k_v, am_k_n, ↓n_in, nI_clamp, i_p1, nI_leI, nI_ltI, nI_eq, n_lt0, n_le0, n_eq0, n_gt0, n_lm, n_em, n_me, n_mlt, false_or, or_false, true_or, or_true, false_and, and_false, true_and, and_true, not_false_eq_true, not_true_eq_false, if_true, if_false, if_pos, if_neg, am_b01, am_b0, am_b1, ne_eq, eq_self, reduceCtorEq, rng_t, Bool.and_true, Bool.and_false, Bool.true_and, Bool.false_and, ite_rgI, if_pos rfl, b_X9_dayNow_165, up_self]
    unfold wdS
    by_cases hin : (1 ≤ gA w k % gW w + dv w 9 % 3 ∧ gA w k % gW w + dv w 9 % 3 ≤ gW w) ∧ 1 ≤ gA w k / gW w + dv w 9 / 3 ∧ gA w k / gW w + dv w 9 / 3 ≤ gD w
    · rw [decide_eq_true hin.1, decide_eq_true hin.2] at e127
      have ht := cix_lt (g := w) (show gA w k % gW w + dv w 9 % 3 - 1 < gW w by omega) (show gA w k / gW w + dv w 9 / 3 - 1 < gD w by omega)
      generalize gA w k % gW w + dv w 9 % 3 = a at hin ht e127 ⊢
      generalize gA w k / gW w + dv w 9 / 3 = b at hin ht e127 ⊢
      have ec : am_up2 I1 81 16 (nI (nxt (se w))) 81 0 * (nI b - 1) + (nI a - 1) = nI (cix w (a - 1) (b - 1)) := by
        rw [eW, nI_m1, nI_m1, if_pos hin.1.1, if_pos hin.2.1, m_cix]
      generalize cix w (a - 1) (b - 1) = t at ht ec ⊢
      have eH : am_up2 I1 81 16 (nI (nxt (se w))) 82 t = nI (gH w t) := rm_H (g := setE w (nI (nxt (se w)))) XE (show t < 48 by omega)
      have b9 := bg_H B1 (show t < 48 by omega)
      by_cases h0 : gH w t = 0
      · refine ⟨am_up2 (am_up2 I1 81 16 (nI (nxt (se w)))) 87 k (nI t), ⟨fun q i hq => ?_, ?_⟩, ?_⟩
        · rw [up_ne (by omega), up_ne (by omega)]; exact F1 q i hq
        · rw [if_pos ⟨hin, h0⟩]
          exact rm_setA (g := dE w) XE hk2
        · try dsimp only
          refine e127.trans ?_
          rw [b_X9_dayNow_127, ec]
          simp (disch := omega) only [Option.bind_some, am_k_v, am_k_n, ↓n_in, nI_clamp, i_p1, nI_leI, nI_ltI, nI_eq, n_lt0, n_le0, n_eq0, n_gt0, n_lm, n_em, n_me, n_mlt, false_or, or_false, true_or, or_true, false_and, and_false, true_and, and_true, not_false_eq_true, not_true_eq_false, if_true, if_false, if_pos, if_neg, am_b01, am_b0, am_b1, ne_eq, eq_self, reduceCtorEq, rng_t, Bool.and_true, Bool.and_false, Bool.true_and, Bool.false_and, ite_rgI, if_pos rfl, eH, h0, b_X9_dayNow_165, Bool.and_self, show ¬ am_b true = 0 by decide]
      · refine ⟨am_up2 I1 81 16 (nI (nxt (se w))), ⟨fun q i hq => ?_, ?_⟩, ?_⟩
        · rw [up_ne (by omega)]; exact F1 q i hq
        · rw [if_neg (fun z => h0 z.2)]
          exact XE
        · try dsimp only
          refine e127.trans ?_
          rw [b_X9_dayNow_127, ec]
          simp (disch := omega) only [Option.bind_some, am_k_v, am_k_n, ↓n_in, nI_clamp, i_p1, nI_leI, nI_ltI, nI_eq, n_lt0, n_le0, n_eq0, n_gt0, n_lm, n_em, n_me, n_mlt, false_or, or_false, true_or, or_true, false_and, and_false, true_and, and_true, not_false_eq_true, not_true_eq_false, if_true, if_false, if_pos, if_neg, am_b01, am_b0, am_b1, ne_eq, eq_self, reduceCtorEq, rng_t, Bool.and_true, Bool.and_false, Bool.true_and, Bool.false_and, ite_rgI, if_pos rfl, eH, h0, Bool.and_self, show ¬ am_b true = 0 by decide]
          exact estay k rfl
    · have hand : (decide (1 ≤ gA w k % gW w + dv w 9 % 3 ∧ gA w k % gW w + dv w 9 % 3 ≤ gW w) && decide (1 ≤ gA w k / gW w + dv w 9 / 3 ∧ gA w k / gW w + dv w 9 / 3 ≤ gD w)) = false := by
        rw [← Bool.decide_and]
        exact decide_eq_false hin
      rw [hand] at e127
      refine ⟨am_up2 I1 81 16 (nI (nxt (se w))), ⟨fun q i hq => ?_, ?_⟩, ?_⟩
      · rw [up_ne (by omega)]; exact F1 q i hq
      · rw [if_neg (fun z => hin z.1)]
        exact XE
      · try dsimp only
        refine e127.trans ?_
        rw [b_X9_dayNow_127, if_pos (show am_b false = 0 from rfl)]
        exact estay k rfl) I ⟨fun _ _ _ => rfl, X⟩
  have eP : I1 81 8 = nI (gP g) := (F1 81 8 (by omega)).trans (rm_P X)
  refine ⟨I1, ?_, X1, F1⟩
  refine Eq.trans e1 ?_
  try dsimp only
  rw [b_X9_dayNow_63, eP, if_pos (nI_le (by omega) (by omega))]
theorem m0_frN (F : frN I I') (C : m0 I) : m0 I' := m0_cong (fun q k h => F q k (by unfold m4 at h; omega)) C
theorem sp_day1 (X : RM g I) (S : BS g) (C : m0 I) {q : Nat} (hq : I 81 13 = nI q) (hq2 : q ≤ 100) : ∃ I', am_ev (am_tbl Ls xs) 50 (0, [(0, .ref 81)], [], (am_sh, I, J)) = some (none, (am_sh, I', J)) ∧ RM (dyW q g) I' ∧ frN I I' := by
  have B := S.1
  have b1 := bg_1 B
  have X1 := rm_setE (z := nI (nxt (se g))) X
  have S1 := bs_dE S
  have F1 : frN I (am_up2 I 81 16 (nI (nxt (se g)))) := fun q k h => up_ne (by omega)
  have d1 := dv_lt (g := g) (k := 100) (by omega)
  have s1 := shS_le B (Nat.le_refl (gN g))
  have hq1 : am_up2 I 81 16 (nI (nxt (se g))) 81 13 = nI q := (up_ne (by omega)).trans hq
  have eN : am_up2 I 81 16 (nI (nxt (se g))) 81 3 = nI (gN g) := rm_N (g := setE g (nI (nxt (se g)))) X1
  have hsh : am_ev (am_tbl Ls xs) 48 (0, [(0, .ref 81), (1, .int (nI (gN g)))], [], (am_sh, am_up2 I 81 16 (nI (nxt (se g))), J)) = some (some (.int (nI (shS g (gN g)))), (am_sh, am_up2 I 81 16 (nI (nxt (se g))), J)) := sp_till (g := dE g) X1 S1.1 (Nat.le_refl (gN g))
  have e6 : am_ev (am_tbl Ls xs) 50 (0, [(0, .ref 81)], [], (am_sh, I, J)) = am_ev (am_tbl Ls xs) 50 (6, [(0, .ref 81)], [.int (nI (dv g 100))], (am_sh, am_up2 I 81 16 (nI (nxt (se g))), J)) := by
    rw [b_X9_dayNow_0, show (100 : Int32) = nI 100 from rfl, sp_draw X S (by omega), Option.bind_some, am_k_v]
  unfold dyW
  by_cases h1 : dv g 100 < q ∨ shS g (gN g) = 0
  · have eO : payO (hrG g q) (hrW g q) = dE g := by unfold hrG hrW; rw [if_pos h1, if_pos h1]; rfl
    rw [eO]
    obtain ⟨I2, e2, X2, F2⟩ := sp_wander (Ls := Ls) (xs := xs) (J := J) (g := dE g) X1 S1
    refine ⟨I2, ?_, X2, frN_tr F1 F2⟩
    rw [e6]
    rcases h1 with h1 | h1
    · rw [b_X9_dayNow_6, hq1, if_pos (nI_lt h1 (by omega)), b_X9_dayNow_61]; exact e2
    · rw [b_X9_dayNow_6, hq1]
      by_cases h2 : dv g 100 < q
      · rw [if_pos (nI_lt h2 (by omega)), b_X9_dayNow_61]; exact e2
      · rw [if_neg (nI_nlt (by omega) (by omega)), eN, hsh, Option.bind_some, am_k_v, b_X9_dayNow_21, if_pos (show nI (shS g (gN g)) ≤ 0 by rw [h1]; decide), b_X9_dayNow_61]; exact e2
  · have hno : ¬ dv g 100 < q ∧ shS g (gN g) ≠ 0 := ⟨fun z => h1 (Or.inl z), fun z => h1 (Or.inr z)⟩
    have X2 := rm_setE (z := nI (nxt (se (dE g)))) X1
    have S2 := bs_dE S1
    have d2 := dv_lt (g := dE g) (k := shS g (gN g)) (by omega)
    obtain ⟨h, a1, a2, a3, a4⟩ := hr_ex d2
    have eO : payO (hrG g q) (hrW g q) = payK (dE (dE g)) h (gP g) := by
      unfold hrG hrW
      rw [if_neg h1, if_neg h1, a4]
      rfl
    rw [eO]
    have C2 : m0 (am_up2 (am_up2 I 81 16 (nI (nxt (se g)))) 81 16 (nI (nxt (se (dE g))))) := m0_up (by unfold m4; omega) (m0_up (by unfold m4; omega) C)
    obtain ⟨I3, e3, X3, F3⟩ := sp_payAt (Ls := Ls) (xs := xs) (J := J) (g := dE (dE g)) X2 S2 C2 (show h < gN (dE (dE g)) from a1)
    obtain ⟨I4, e4, X4, F4⟩ := sp_wander (Ls := Ls) (xs := xs) (J := J) X3 (bs_pay S2)
    refine ⟨I4, ?_, X4, frN_tr F1 (frN_tr (fun q k h => up_ne (by omega)) (frN_tr F3 F4))⟩
    have htl : ∀ n, n ≤ gN g → am_ev (am_tbl Ls xs) 48 (0, [(0, .ref 81), (1, .int (nI n))], [], (am_sh, am_up2 (am_up2 I 81 16 (nI (nxt (se g)))) 81 16 (nI (nxt (se (dE g)))), J)) = some (some (.int (nI (shS g n))), (am_sh, am_up2 (am_up2 I 81 16 (nI (nxt (se g)))) 81 16 (nI (nxt (se (dE g)))), J)) := fun n hn => sp_till (g := dE (dE g)) X2 S2.1 hn
    have sle : ∀ k, k ≤ gN g → shS g k ≤ 120 := fun k hk => shS_le B hk
    have e39 : am_ev (am_tbl Ls xs) 50 (39, [(0, .ref 81), (1, .int (nI (dv (dE g) (shS g (gN g))))), (2, .int 0)], [], (am_sh, am_up2 (am_up2 I 81 16 (nI (nxt (se g)))) 81 16 (nI (nxt (se (dE g)))), J)) = am_ev (am_tbl Ls xs) 50 (61, [(0, .ref 81), (1, .int (nI (dv (dE g) (shS g (gN g))))), (2, .int (nI h))], [], (am_sh, I3, J)) := by
      refine (lp (N := h) (f := fun k => am_ev (am_tbl Ls xs) 50 (39, [(0, .ref 81), (1, .int (nI (dv (dE g) (shS g (gN g))))), (2, .int (nI k))], [], (am_sh, am_up2 (am_up2 I 81 16 (nI (nxt (se g)))) 81 16 (nI (nxt (se (dE g)))), J))) ?_).trans ?_
      · intro k hk
        have := sle (k + 1) (by omega)
        have := a3 k hk
        try dsimp only
        rw [b_X9_dayNow_39, nI_1, htl (k + 1) (by omega), Option.bind_some, am_k_v, b_X9_dayNow_46, if_neg (nI_nlt (by omega) (by omega)), i_p1]
      · have := sle (h + 1) (by omega)
        try dsimp only
        rw [b_X9_dayNow_39, nI_1, htl (h + 1) (by omega), Option.bind_some, am_k_v, b_X9_dayNow_46, if_pos (nI_lt (by omega) (by omega)), e3, Option.bind_some, am_k_n]
    rw [e6, b_X9_dayNow_6, hq1, if_neg (nI_nlt (by omega) (by omega)), eN, hsh, Option.bind_some, am_k_v, b_X9_dayNow_21, if_neg (show ¬ nI (shS g (gN g)) ≤ 0 from fun z => hno.2 ((n_le0 (by omega)).mp z)), eN, hsh, Option.bind_some, am_k_v, b_X9_dayNow_33, sp_draw (g := dE g) X1 S1 (by omega), Option.bind_some, am_k_v, b_X9_dayNow_36, e39, b_X9_dayNow_61_2]
    exact e4
theorem sp_days (X : RM g I) (S : BS g) (C : m0 I) {q n : Nat} (hq : I 81 13 = nI q) (hq2 : q ≤ 100) (hn : n < 1000) : ∃ I', am_ev (am_tbl Ls xs) 51 (28, [(0, .ref 81), (1, .int (nI n)), (2, .int 0)], [], (am_sh, I, J)) = some (some (.int (gM (dyN q g n))), (am_sh, I', J)) ∧ RM (dyN q g n) I' ∧ frN I I' := by
  have B := S.1
  have b1 := bg_1 B
  obtain ⟨I1, ⟨F1, X1⟩, e1⟩ := lpe (N := n) (f := fun k I' => am_ev (am_tbl Ls xs) 51 (28, [(0, .ref 81), (1, .int (nI n)), (2, .int (nI k))], [], (am_sh, I', J))) (V := fun k I' => frN I I' ∧ RM (dyN q g k) I') (by
    intro k I1 hk ⟨F1, X1⟩
    have S1 := bs_dyN (q := q) S k
    have hq1 : I1 81 13 = nI q := (F1 81 13 (by omega)).trans hq
    have C1 := m0_frN F1 C
    show ∃ I2, (frN I I2 ∧ RM (dyW q (dyN q g k)) I2) ∧ _
    generalize dyN q g k = w at X1 S1
    obtain ⟨I2, e2, X2, F2⟩ := sp_day1 (Ls := Ls) (xs := xs) (J := J) X1 S1 C1 hq1 hq2
    refine ⟨I2, ⟨frN_tr F1 F2, X2⟩, ?_⟩
    try dsimp only
    rw [b_X9_day_28, if_neg (nI_ge hk (by omega)), e2, Option.bind_some, am_k_n, b_X9_day_37, i_p1]) I ⟨fun _ _ _ => rfl, X⟩
  refine ⟨I1, ?_, X1, F1⟩
  refine Eq.trans e1 ?_
  try dsimp only
  rw [b_X9_day_28, if_pos (nI_le (by omega) (by omega)), rm_M X1]
theorem bq_of {g' : Vg} (h : g'.1 = g.1) (Q : BQ g r) : BQ g' r := by
  obtain ⟨p, s⟩ := g
  obtain ⟨p', s'⟩ := g'
  dsimp only at h
  subst h
  exact Q
theorem qx_of {g' : Vg} (h : g'.1 = g.1) (Q : QX g r I) : QX g' r I := by
  obtain ⟨p, s⟩ := g
  obtain ⟨p', s'⟩ := g'
  dsimp only at h
  subst h
  exact Q
theorem qm_of {g' : Vg} (h : g'.1 = g.1) (Q : QM g r I) : QM g' r I := by
  obtain ⟨p, s⟩ := g
  obtain ⟨p', s'⟩ := g'
  dsimp only at h
  subst h
  exact Q
theorem pu_day (H : Inv I J) (a : Int32) : StpC Ls xs 87 51 [(0, .ref 0), (1, .int a)] [(0, .ref 81), (1, .int a)] I J := by
  obtain ⟨g, r, S, Q, ⟨X, XQ, D⟩, ⟨M, MQ, C⟩⟩ := id H
  have B := S.1
  have b1 := bg_1 B
  cases hr : rgI 1 99 a
  · refine stp_pure H (v := -1000000002) ?_ ?_
    · simp (disch := omega) only [b_X8_day_0, b_X8_day_11, Option.bind_some, am_k_v, am_k_n, ↓n_in, nI_clamp, i_p1, nI_leI, nI_ltI, nI_eq, n_lt0, n_le0, n_eq0, n_gt0, n_lm, n_em, n_me, n_mlt, false_or, or_false, true_or, or_true, false_and, and_false, true_and, and_true, not_false_eq_true, not_true_eq_false, if_true, if_false, if_pos, if_neg, am_b01, am_b0, am_b1, ne_eq, eq_self, reduceCtorEq, rng_t, Bool.and_true, Bool.and_false, Bool.true_and, Bool.false_and, ite_rgI, if_pos rfl, hr]
    · simp (disch := omega) only [b_X9_day_0, b_X9_day_9, Option.bind_some, am_k_v, am_k_n, ↓n_in, nI_clamp, i_p1, nI_leI, nI_ltI, nI_eq, n_lt0, n_le0, n_eq0, n_gt0, n_lm, n_em, n_me, n_mlt, false_or, or_false, true_or, or_true, false_and, and_false, true_and, and_true, not_false_eq_true, not_true_eq_false, if_true, if_false, if_pos, if_neg, am_b01, am_b0, am_b1, ne_eq, eq_self, reduceCtorEq, rng_t, Bool.and_true, Bool.and_false, Bool.true_and, Bool.false_and, ite_rgI, if_pos rfl, sp_in_1_99, hr]
  · obtain ⟨n, hn1, hn, hna⟩ := rgI_n (m := 1) (n := 99) rfl rfl hr
    by_cases h0 : gW g = 0
    · have hC : gW g * gD g = 0 := by rw [h0, Nat.zero_mul]
      refine stp_pure H (v := -1000000003) ?_ ?_
      · simp (disch := omega) only [b_X8_day_0, b_X8_day_11, Option.bind_some, am_k_v, am_k_n, ↓n_in, nI_clamp, i_p1, nI_leI, nI_ltI, nI_eq, n_lt0, n_le0, n_eq0, n_gt0, n_lm, n_em, n_me, n_mlt, false_or, or_false, true_or, or_true, false_and, and_false, true_and, and_true, not_false_eq_true, not_true_eq_false, if_true, if_false, if_pos, if_neg, am_b01, am_b0, am_b1, ne_eq, eq_self, reduceCtorEq, rng_t, Bool.and_true, Bool.and_false, Bool.true_and, Bool.false_and, ite_rgI, if_pos rfl, hr, rx_C X]
      · simp (disch := omega) only [b_X9_day_0, b_X9_day_9, Option.bind_some, am_k_v, am_k_n, ↓n_in, nI_clamp, i_p1, nI_leI, nI_ltI, nI_eq, n_lt0, n_le0, n_eq0, n_gt0, n_lm, n_em, n_me, n_mlt, false_or, or_false, true_or, or_true, false_and, and_false, true_and, and_true, not_false_eq_true, not_true_eq_false, if_true, if_false, if_pos, if_neg, am_b01, am_b0, am_b1, ne_eq, eq_self, reduceCtorEq, rng_t, Bool.and_true, Bool.and_false, Bool.true_and, Bool.false_and, ite_rgI, if_pos rfl, sp_in_1_99, hr, rm_W M]
    · have hC : gW g * gD g ≠ 0 := by
        rcases b1.2.2.2.2.2.2 with z | z
        · exact absurd z.1 h0
        · exact Nat.mul_ne_zero (by omega) (by omega)
      obtain ⟨I1, e1, X1, F1⟩ := sx_days (Ls := Ls) (xs := xs) X S D (q := qG r) (n := n) XQ.1.1 Q.1.1 (by omega)
      have M1 : InM g r I1 := inm_x (fun q k h => F1 q k (by omega)) ⟨M, MQ, C⟩
      obtain ⟨I2, e2, M2, F2⟩ := sp_days (Ls := Ls) (xs := xs) (J := J) M1.1 S M1.2.2 (q := qG r) (n := n) M1.2.1.1.1 Q.1.1 (by omega)
      have h1 := dyN_1 (g := g) (q := qG r) n
      have S2 := bs_dyN (q := qG r) S n
      have XQ1 : QX g r I1 := qx_cong (fun q k h => F1 q k (by unfold xQ at h; omega)) XQ
      have MQ2 : QM g r I2 := qm_cong (fun q k h => F2 q k (by unfold mQ at h; omega)) M1.2.1
      have X2 : InX (dyN (qG r) g n) r I2 J := inx_m S2.1 (fun q k h => F2 q k (by omega)) (fun _ => rfl) ⟨X1, qx_of h1.1 XQ1, rd_same (g := g) h1.1.symm h1.2.symm D⟩
      refine ⟨gM (dyN (qG r) g n), I1, J, I2, J, ?_, ?_, ⟨dyN (qG r) g n, r, S2, bq_of h1.1 Q, X2, ⟨M2, qm_of h1.1 MQ2, m0_frN F2 M1.2.2⟩⟩⟩
      · simp (disch := omega) only [b_X8_day_0, b_X8_day_11, Option.bind_some, am_k_v, am_k_n, ↓n_in, nI_clamp, i_p1, nI_leI, nI_ltI, nI_eq, n_lt0, n_le0, n_eq0, n_gt0, n_lm, n_em, n_me, n_mlt, false_or, or_false, true_or, or_true, false_and, and_false, true_and, and_true, not_false_eq_true, not_true_eq_false, if_true, if_false, if_pos, if_neg, am_b01, am_b0, am_b1, ne_eq, eq_self, reduceCtorEq, rng_t, Bool.and_true, Bool.and_false, Bool.true_and, Bool.false_and, ite_rgI, if_pos rfl, hr, rx_C X]
        rw [hna]; exact e1
      · simp (disch := omega) only [b_X9_day_0, b_X9_day_9, Option.bind_some, am_k_v, am_k_n, ↓n_in, nI_clamp, i_p1, nI_leI, nI_ltI, nI_eq, n_lt0, n_le0, n_eq0, n_gt0, n_lm, n_em, n_me, n_mlt, false_or, or_false, true_or, or_true, false_and, and_false, true_and, and_true, not_false_eq_true, not_true_eq_false, if_true, if_false, if_pos, if_neg, am_b01, am_b0, am_b1, ne_eq, eq_self, reduceCtorEq, rng_t, Bool.and_true, Bool.and_false, Bool.true_and, Bool.false_and, ite_rgI, if_pos rfl, sp_in_1_99, hr, rm_W M1.1]
        rw [hna]; exact e2
end
