/-! IMAGES, AND THE TEXT FED -/
def img (g : Vg) : Vs := g.2
def rK0 (r : Vr) (s : Vs) : Vr := (r.1, r.2.1, r.2.2.1, r.2.2.2.1, (1, s), r.2.2.2.2.2)
def rK1 (r : Vr) (s : Vs) : Vr := (r.1, r.2.1, r.2.2.1, r.2.2.2.1, r.2.2.2.2.1, (1, s))
section
variable {Ls : Nat} {xs : Nat → Int32} {g : Vg} {r : Vr} {I I' : Nat → Nat → Int32} {J : Nat → Nat → Int64}
theorem sx_cp_38_33 : ∃ I', am_ev (am_tbl Ls xs) 185 (0, [(0, .ref 38), (1, .ref 33)], [], (am_sh, I, J)) = some (none, (am_sh, I', J)) ∧ (∀ q k, (q < 38 ∨ 42 < q ∨ (q = 38 ∧ k < 4)) → I' q k = I q k) ∧ (∀ p, p < 6 → I' 39 p = I 34 p ∧ I' 40 p = I 35 p ∧ I' 41 p = I 36 p) ∧ (∀ c, c < 48 → I' 42 c = I 37 c) ∧ I' 38 4 = I 33 4 ∧ I' 38 5 = I 33 5 ∧ I' 38 6 = I 33 6 := by
  obtain ⟨I1, ⟨F1, P1⟩, e1⟩ := lpe (N := 6) (f := fun k I' => am_ev (am_tbl Ls xs) 185 (2, [(0, .ref 38), (1, .ref 33), (2, .int (nI k))], [], (am_sh, I', J))) (V := fun k I' => (∀ q i, (q ≠ 39 ∧ q ≠ 40 ∧ q ≠ 41) → I' q i = I q i) ∧ ∀ p, p < k → I' 39 p = I 34 p ∧ I' 40 p = I 35 p ∧ I' 41 p = I 36 p) (by
    intro k I1 hk ⟨F1, P1⟩
    refine ⟨am_up2 (am_up2 (am_up2 I1 39 k (I 34 k)) 40 k (I 35 k)) 41 k (I 36 k), ⟨fun q i hq => ?_, fun p hp => ?_⟩, ?_⟩
    · rw [up_ne (by omega), up_ne (by omega), up_ne (by omega)]; exact F1 q i hq
    · by_cases e : p = k
      · subst e
        exact ⟨by rw [up_ne (by omega), up_ne (by omega), up_eq], by rw [up_ne (by omega), up_eq], by rw [up_eq]⟩
      · have := P1 p (by omega)
        exact ⟨by rw [up_ne (by omega), up_ne (by omega), up_ne (by omega)]; exact this.1, by rw [up_ne (by omega), up_ne (by omega), up_ne (by omega)]; exact this.2.1, by rw [up_ne (by omega), up_ne (by omega), up_ne (by omega)]; exact this.2.2⟩
    · try dsimp only
      rw [b_X6_copyFrom_2, if_neg (show ¬ (6 : Int32) ≤ nI k from nI_ge (b := 6) hk (by omega))]
      have f1 := F1 34 k (by omega)
      have f2 := F1 35 k (by omega)
      have f3 := F1 36 k (by omega)
      simp (disch := omega) only [Option.bind_some, am_k_v, am_k_n, ↓n_in, nI_clamp, i_p1, nI_leI, nI_ltI, nI_eq, n_lt0, n_le0, n_eq0, n_gt0, n_lm, n_em, n_me, n_mlt, false_or, or_false, true_or, or_true, false_and, and_false, true_and, and_true, not_false_eq_true, not_true_eq_false, if_true, if_false, if_pos, if_neg, am_b01, am_b0, am_b1, ne_eq, eq_self, reduceCtorEq, rng_t, Bool.and_true, Bool.and_false, Bool.true_and, Bool.false_and, ite_rgI, if_pos rfl, up_ne, f1, f2, f3]) I ⟨fun _ _ _ => rfl, fun p hp => absurd hp (Nat.not_lt_zero p)⟩
  obtain ⟨I2, ⟨F2, P2⟩, e2⟩ := lpe (N := 48) (f := fun k I' => am_ev (am_tbl Ls xs) 185 (52, [(0, .ref 38), (1, .ref 33), (2, .int (nI k))], [], (am_sh, I', J))) (V := fun k I' => (∀ q i, q ≠ 42 → I' q i = I1 q i) ∧ ∀ c, c < k → I' 42 c = I 37 c) (by
    intro k I2 hk ⟨F2, P2⟩
    refine ⟨am_up2 I2 42 k (I 37 k), ⟨fun q i hq => ?_, fun p hp => ?_⟩, ?_⟩
    · rw [up_ne (by omega)]; exact F2 q i hq
    · by_cases e : p = k
      · rw [e, up_eq]
      · rw [up_ne (by omega)]; exact P2 p (by omega)
    · try dsimp only
      rw [b_X6_copyFrom_52, if_neg (show ¬ (48 : Int32) ≤ nI k from nI_ge (b := 48) hk (by omega))]
      have f1 : I2 37 k = I 37 k := (F2 37 k (by omega)).trans (F1 37 k (by omega))
      simp (disch := omega) only [Option.bind_some, am_k_v, am_k_n, ↓n_in, nI_clamp, i_p1, nI_leI, nI_ltI, nI_eq, n_lt0, n_le0, n_eq0, n_gt0, n_lm, n_em, n_me, n_mlt, false_or, or_false, true_or, or_true, false_and, and_false, true_and, and_true, not_false_eq_true, not_true_eq_false, if_true, if_false, if_pos, if_neg, am_b01, am_b0, am_b1, ne_eq, eq_self, reduceCtorEq, rng_t, Bool.and_true, Bool.and_false, Bool.true_and, Bool.false_and, ite_rgI, if_pos rfl, f1]) I1 ⟨fun _ _ _ => rfl, fun p hp => absurd hp (Nat.not_lt_zero p)⟩
  have g4 : ∀ i, I2 33 i = I 33 i := fun i => (F2 33 i (by omega)).trans (F1 33 i (by omega))
  refine ⟨am_up2 (am_up2 (am_up2 I2 38 4 (I 33 4)) 38 5 (I 33 5)) 38 6 (I 33 6), ?_, fun q k hq => ?_, fun p hp => ?_, fun c hc => ?_, ?_, ?_, ?_⟩
  · rw [b_X6_copyFrom_0]
    refine Eq.trans e1 ?_
    try dsimp only
    rw [b_X6_copyFrom_2, if_pos (show (6 : Int32) ≤ nI 6 by decide)]
    refine Eq.trans e2 ?_
    try dsimp only
    rw [b_X6_copyFrom_52, if_pos (show (48 : Int32) ≤ nI 48 by decide)]
    simp (disch := omega) only [up_ne, g4]
  · rw [up_ne (by omega), up_ne (by omega), up_ne (by omega), F2 q k (by omega)]; exact F1 q k (by omega)
  · have := P1 p hp
    exact ⟨by rw [up_ne (by omega), up_ne (by omega), up_ne (by omega), F2 _ _ (by omega)]; exact this.1, by rw [up_ne (by omega), up_ne (by omega), up_ne (by omega), F2 _ _ (by omega)]; exact this.2.1, by rw [up_ne (by omega), up_ne (by omega), up_ne (by omega), F2 _ _ (by omega)]; exact this.2.2⟩
  · rw [up_ne (by omega), up_ne (by omega), up_ne (by omega)]; exact P2 c hc
  · rw [up_ne (by omega), up_ne (by omega), up_eq]
  · rw [up_ne (by omega), up_eq]
  · rw [up_eq]
theorem sx_cp_43_33 : ∃ I', am_ev (am_tbl Ls xs) 185 (0, [(0, .ref 43), (1, .ref 33)], [], (am_sh, I, J)) = some (none, (am_sh, I', J)) ∧ (∀ q k, (q < 43 ∨ 47 < q ∨ (q = 43 ∧ k < 4)) → I' q k = I q k) ∧ (∀ p, p < 6 → I' 44 p = I 34 p ∧ I' 45 p = I 35 p ∧ I' 46 p = I 36 p) ∧ (∀ c, c < 48 → I' 47 c = I 37 c) ∧ I' 43 4 = I 33 4 ∧ I' 43 5 = I 33 5 ∧ I' 43 6 = I 33 6 := by
  obtain ⟨I1, ⟨F1, P1⟩, e1⟩ := lpe (N := 6) (f := fun k I' => am_ev (am_tbl Ls xs) 185 (2, [(0, .ref 43), (1, .ref 33), (2, .int (nI k))], [], (am_sh, I', J))) (V := fun k I' => (∀ q i, (q ≠ 44 ∧ q ≠ 45 ∧ q ≠ 46) → I' q i = I q i) ∧ ∀ p, p < k → I' 44 p = I 34 p ∧ I' 45 p = I 35 p ∧ I' 46 p = I 36 p) (by
    intro k I1 hk ⟨F1, P1⟩
    refine ⟨am_up2 (am_up2 (am_up2 I1 44 k (I 34 k)) 45 k (I 35 k)) 46 k (I 36 k), ⟨fun q i hq => ?_, fun p hp => ?_⟩, ?_⟩
    · rw [up_ne (by omega), up_ne (by omega), up_ne (by omega)]; exact F1 q i hq
    · by_cases e : p = k
      · subst e
        exact ⟨by rw [up_ne (by omega), up_ne (by omega), up_eq], by rw [up_ne (by omega), up_eq], by rw [up_eq]⟩
      · have := P1 p (by omega)
        exact ⟨by rw [up_ne (by omega), up_ne (by omega), up_ne (by omega)]; exact this.1, by rw [up_ne (by omega), up_ne (by omega), up_ne (by omega)]; exact this.2.1, by rw [up_ne (by omega), up_ne (by omega), up_ne (by omega)]; exact this.2.2⟩
    · try dsimp only
      rw [b_X6_copyFrom_2_2, if_neg (show ¬ (6 : Int32) ≤ nI k from nI_ge (b := 6) hk (by omega))]
      have f1 := F1 34 k (by omega)
      have f2 := F1 35 k (by omega)
      have f3 := F1 36 k (by omega)
      simp (disch := omega) only [Option.bind_some, am_k_v, am_k_n, ↓n_in, nI_clamp, i_p1, nI_leI, nI_ltI, nI_eq, n_lt0, n_le0, n_eq0, n_gt0, n_lm, n_em, n_me, n_mlt, false_or, or_false, true_or, or_true, false_and, and_false, true_and, and_true, not_false_eq_true, not_true_eq_false, if_true, if_false, if_pos, if_neg, am_b01, am_b0, am_b1, ne_eq, eq_self, reduceCtorEq, rng_t, Bool.and_true, Bool.and_false, Bool.true_and, Bool.false_and, ite_rgI, if_pos rfl, up_ne, f1, f2, f3]) I ⟨fun _ _ _ => rfl, fun p hp => absurd hp (Nat.not_lt_zero p)⟩
  obtain ⟨I2, ⟨F2, P2⟩, e2⟩ := lpe (N := 48) (f := fun k I' => am_ev (am_tbl Ls xs) 185 (52, [(0, .ref 43), (1, .ref 33), (2, .int (nI k))], [], (am_sh, I', J))) (V := fun k I' => (∀ q i, q ≠ 47 → I' q i = I1 q i) ∧ ∀ c, c < k → I' 47 c = I 37 c) (by
    intro k I2 hk ⟨F2, P2⟩
    refine ⟨am_up2 I2 47 k (I 37 k), ⟨fun q i hq => ?_, fun p hp => ?_⟩, ?_⟩
    · rw [up_ne (by omega)]; exact F2 q i hq
    · by_cases e : p = k
      · rw [e, up_eq]
      · rw [up_ne (by omega)]; exact P2 p (by omega)
    · try dsimp only
      rw [b_X6_copyFrom_52_2, if_neg (show ¬ (48 : Int32) ≤ nI k from nI_ge (b := 48) hk (by omega))]
      have f1 : I2 37 k = I 37 k := (F2 37 k (by omega)).trans (F1 37 k (by omega))
      simp (disch := omega) only [Option.bind_some, am_k_v, am_k_n, ↓n_in, nI_clamp, i_p1, nI_leI, nI_ltI, nI_eq, n_lt0, n_le0, n_eq0, n_gt0, n_lm, n_em, n_me, n_mlt, false_or, or_false, true_or, or_true, false_and, and_false, true_and, and_true, not_false_eq_true, not_true_eq_false, if_true, if_false, if_pos, if_neg, am_b01, am_b0, am_b1, ne_eq, eq_self, reduceCtorEq, rng_t, Bool.and_true, Bool.and_false, Bool.true_and, Bool.false_and, ite_rgI, if_pos rfl, f1]) I1 ⟨fun _ _ _ => rfl, fun p hp => absurd hp (Nat.not_lt_zero p)⟩
  have g4 : ∀ i, I2 33 i = I 33 i := fun i => (F2 33 i (by omega)).trans (F1 33 i (by omega))
  refine ⟨am_up2 (am_up2 (am_up2 I2 43 4 (I 33 4)) 43 5 (I 33 5)) 43 6 (I 33 6), ?_, fun q k hq => ?_, fun p hp => ?_, fun c hc => ?_, ?_, ?_, ?_⟩
  · rw [b_X6_copyFrom_0_2]
    refine Eq.trans e1 ?_
    try dsimp only
    rw [b_X6_copyFrom_2_2, if_pos (show (6 : Int32) ≤ nI 6 by decide)]
    refine Eq.trans e2 ?_
    try dsimp only
    rw [b_X6_copyFrom_52_2, if_pos (show (48 : Int32) ≤ nI 48 by decide)]
    simp (disch := omega) only [up_ne, g4]
  · rw [up_ne (by omega), up_ne (by omega), up_ne (by omega), F2 q k (by omega)]; exact F1 q k (by omega)
  · have := P1 p hp
    exact ⟨by rw [up_ne (by omega), up_ne (by omega), up_ne (by omega), F2 _ _ (by omega)]; exact this.1, by rw [up_ne (by omega), up_ne (by omega), up_ne (by omega), F2 _ _ (by omega)]; exact this.2.1, by rw [up_ne (by omega), up_ne (by omega), up_ne (by omega), F2 _ _ (by omega)]; exact this.2.2⟩
  · rw [up_ne (by omega), up_ne (by omega), up_ne (by omega)]; exact P2 c hc
  · rw [up_ne (by omega), up_ne (by omega), up_eq]
  · rw [up_ne (by omega), up_eq]
  · rw [up_eq]
theorem sx_cp_33_38 : ∃ I', am_ev (am_tbl Ls xs) 185 (0, [(0, .ref 33), (1, .ref 38)], [], (am_sh, I, J)) = some (none, (am_sh, I', J)) ∧ (∀ q k, (q < 33 ∨ 37 < q ∨ (q = 33 ∧ k < 4)) → I' q k = I q k) ∧ (∀ p, p < 6 → I' 34 p = I 39 p ∧ I' 35 p = I 40 p ∧ I' 36 p = I 41 p) ∧ (∀ c, c < 48 → I' 37 c = I 42 c) ∧ I' 33 4 = I 38 4 ∧ I' 33 5 = I 38 5 ∧ I' 33 6 = I 38 6 := by
  obtain ⟨I1, ⟨F1, P1⟩, e1⟩ := lpe (N := 6) (f := fun k I' => am_ev (am_tbl Ls xs) 185 (2, [(0, .ref 33), (1, .ref 38), (2, .int (nI k))], [], (am_sh, I', J))) (V := fun k I' => (∀ q i, (q ≠ 34 ∧ q ≠ 35 ∧ q ≠ 36) → I' q i = I q i) ∧ ∀ p, p < k → I' 34 p = I 39 p ∧ I' 35 p = I 40 p ∧ I' 36 p = I 41 p) (by
    intro k I1 hk ⟨F1, P1⟩
    refine ⟨am_up2 (am_up2 (am_up2 I1 34 k (I 39 k)) 35 k (I 40 k)) 36 k (I 41 k), ⟨fun q i hq => ?_, fun p hp => ?_⟩, ?_⟩
    · rw [up_ne (by omega), up_ne (by omega), up_ne (by omega)]; exact F1 q i hq
    · by_cases e : p = k
      · subst e
        exact ⟨by rw [up_ne (by omega), up_ne (by omega), up_eq], by rw [up_ne (by omega), up_eq], by rw [up_eq]⟩
      · have := P1 p (by omega)
        exact ⟨by rw [up_ne (by omega), up_ne (by omega), up_ne (by omega)]; exact this.1, by rw [up_ne (by omega), up_ne (by omega), up_ne (by omega)]; exact this.2.1, by rw [up_ne (by omega), up_ne (by omega), up_ne (by omega)]; exact this.2.2⟩
    · try dsimp only
      rw [b_X6_copyFrom_2_3, if_neg (show ¬ (6 : Int32) ≤ nI k from nI_ge (b := 6) hk (by omega))]
      have f1 := F1 39 k (by omega)
      have f2 := F1 40 k (by omega)
      have f3 := F1 41 k (by omega)
      simp (disch := omega) only [Option.bind_some, am_k_v, am_k_n, ↓n_in, nI_clamp, i_p1, nI_leI, nI_ltI, nI_eq, n_lt0, n_le0, n_eq0, n_gt0, n_lm, n_em, n_me, n_mlt, false_or, or_false, true_or, or_true, false_and, and_false, true_and, and_true, not_false_eq_true, not_true_eq_false, if_true, if_false, if_pos, if_neg, am_b01, am_b0, am_b1, ne_eq, eq_self, reduceCtorEq, rng_t, Bool.and_true, Bool.and_false, Bool.true_and, Bool.false_and, ite_rgI, if_pos rfl, up_ne, f1, f2, f3]) I ⟨fun _ _ _ => rfl, fun p hp => absurd hp (Nat.not_lt_zero p)⟩
  obtain ⟨I2, ⟨F2, P2⟩, e2⟩ := lpe (N := 48) (f := fun k I' => am_ev (am_tbl Ls xs) 185 (52, [(0, .ref 33), (1, .ref 38), (2, .int (nI k))], [], (am_sh, I', J))) (V := fun k I' => (∀ q i, q ≠ 37 → I' q i = I1 q i) ∧ ∀ c, c < k → I' 37 c = I 42 c) (by
    intro k I2 hk ⟨F2, P2⟩
    refine ⟨am_up2 I2 37 k (I 42 k), ⟨fun q i hq => ?_, fun p hp => ?_⟩, ?_⟩
    · rw [up_ne (by omega)]; exact F2 q i hq
    · by_cases e : p = k
      · rw [e, up_eq]
      · rw [up_ne (by omega)]; exact P2 p (by omega)
    · try dsimp only
      rw [b_X6_copyFrom_52_3, if_neg (show ¬ (48 : Int32) ≤ nI k from nI_ge (b := 48) hk (by omega))]
      have f1 : I2 42 k = I 42 k := (F2 42 k (by omega)).trans (F1 42 k (by omega))
      simp (disch := omega) only [Option.bind_some, am_k_v, am_k_n, ↓n_in, nI_clamp, i_p1, nI_leI, nI_ltI, nI_eq, n_lt0, n_le0, n_eq0, n_gt0, n_lm, n_em, n_me, n_mlt, false_or, or_false, true_or, or_true, false_and, and_false, true_and, and_true, not_false_eq_true, not_true_eq_false, if_true, if_false, if_pos, if_neg, am_b01, am_b0, am_b1, ne_eq, eq_self, reduceCtorEq, rng_t, Bool.and_true, Bool.and_false, Bool.true_and, Bool.false_and, ite_rgI, if_pos rfl, f1]) I1 ⟨fun _ _ _ => rfl, fun p hp => absurd hp (Nat.not_lt_zero p)⟩
  have g4 : ∀ i, I2 38 i = I 38 i := fun i => (F2 38 i (by omega)).trans (F1 38 i (by omega))
  refine ⟨am_up2 (am_up2 (am_up2 I2 33 4 (I 38 4)) 33 5 (I 38 5)) 33 6 (I 38 6), ?_, fun q k hq => ?_, fun p hp => ?_, fun c hc => ?_, ?_, ?_, ?_⟩
  · rw [b_X6_copyFrom_0_3]
    refine Eq.trans e1 ?_
    try dsimp only
    rw [b_X6_copyFrom_2_3, if_pos (show (6 : Int32) ≤ nI 6 by decide)]
    refine Eq.trans e2 ?_
    try dsimp only
    rw [b_X6_copyFrom_52_3, if_pos (show (48 : Int32) ≤ nI 48 by decide)]
    simp (disch := omega) only [up_ne, g4]
  · rw [up_ne (by omega), up_ne (by omega), up_ne (by omega), F2 q k (by omega)]; exact F1 q k (by omega)
  · have := P1 p hp
    exact ⟨by rw [up_ne (by omega), up_ne (by omega), up_ne (by omega), F2 _ _ (by omega)]; exact this.1, by rw [up_ne (by omega), up_ne (by omega), up_ne (by omega), F2 _ _ (by omega)]; exact this.2.1, by rw [up_ne (by omega), up_ne (by omega), up_ne (by omega), F2 _ _ (by omega)]; exact this.2.2⟩
  · rw [up_ne (by omega), up_ne (by omega), up_ne (by omega)]; exact P2 c hc
  · rw [up_ne (by omega), up_ne (by omega), up_eq]
  · rw [up_ne (by omega), up_eq]
  · rw [up_eq]
theorem sx_cp_33_43 : ∃ I', am_ev (am_tbl Ls xs) 185 (0, [(0, .ref 33), (1, .ref 43)], [], (am_sh, I, J)) = some (none, (am_sh, I', J)) ∧ (∀ q k, (q < 33 ∨ 37 < q ∨ (q = 33 ∧ k < 4)) → I' q k = I q k) ∧ (∀ p, p < 6 → I' 34 p = I 44 p ∧ I' 35 p = I 45 p ∧ I' 36 p = I 46 p) ∧ (∀ c, c < 48 → I' 37 c = I 47 c) ∧ I' 33 4 = I 43 4 ∧ I' 33 5 = I 43 5 ∧ I' 33 6 = I 43 6 := by
  obtain ⟨I1, ⟨F1, P1⟩, e1⟩ := lpe (N := 6) (f := fun k I' => am_ev (am_tbl Ls xs) 185 (2, [(0, .ref 33), (1, .ref 43), (2, .int (nI k))], [], (am_sh, I', J))) (V := fun k I' => (∀ q i, (q ≠ 34 ∧ q ≠ 35 ∧ q ≠ 36) → I' q i = I q i) ∧ ∀ p, p < k → I' 34 p = I 44 p ∧ I' 35 p = I 45 p ∧ I' 36 p = I 46 p) (by
    intro k I1 hk ⟨F1, P1⟩
    refine ⟨am_up2 (am_up2 (am_up2 I1 34 k (I 44 k)) 35 k (I 45 k)) 36 k (I 46 k), ⟨fun q i hq => ?_, fun p hp => ?_⟩, ?_⟩
    · rw [up_ne (by omega), up_ne (by omega), up_ne (by omega)]; exact F1 q i hq
    · by_cases e : p = k
      · subst e
        exact ⟨by rw [up_ne (by omega), up_ne (by omega), up_eq], by rw [up_ne (by omega), up_eq], by rw [up_eq]⟩
      · have := P1 p (by omega)
        exact ⟨by rw [up_ne (by omega), up_ne (by omega), up_ne (by omega)]; exact this.1, by rw [up_ne (by omega), up_ne (by omega), up_ne (by omega)]; exact this.2.1, by rw [up_ne (by omega), up_ne (by omega), up_ne (by omega)]; exact this.2.2⟩
    · try dsimp only
      rw [b_X6_copyFrom_2_4, if_neg (show ¬ (6 : Int32) ≤ nI k from nI_ge (b := 6) hk (by omega))]
      have f1 := F1 44 k (by omega)
      have f2 := F1 45 k (by omega)
      have f3 := F1 46 k (by omega)
      simp (disch := omega) only [Option.bind_some, am_k_v, am_k_n, ↓n_in, nI_clamp, i_p1, nI_leI, nI_ltI, nI_eq, n_lt0, n_le0, n_eq0, n_gt0, n_lm, n_em, n_me, n_mlt, false_or, or_false, true_or, or_true, false_and, and_false, true_and, and_true, not_false_eq_true, not_true_eq_false, if_true, if_false, if_pos, if_neg, am_b01, am_b0, am_b1, ne_eq, eq_self, reduceCtorEq, rng_t, Bool.and_true, Bool.and_false, Bool.true_and, Bool.false_and, ite_rgI, if_pos rfl, up_ne, f1, f2, f3]) I ⟨fun _ _ _ => rfl, fun p hp => absurd hp (Nat.not_lt_zero p)⟩
  obtain ⟨I2, ⟨F2, P2⟩, e2⟩ := lpe (N := 48) (f := fun k I' => am_ev (am_tbl Ls xs) 185 (52, [(0, .ref 33), (1, .ref 43), (2, .int (nI k))], [], (am_sh, I', J))) (V := fun k I' => (∀ q i, q ≠ 37 → I' q i = I1 q i) ∧ ∀ c, c < k → I' 37 c = I 47 c) (by
    intro k I2 hk ⟨F2, P2⟩
    refine ⟨am_up2 I2 37 k (I 47 k), ⟨fun q i hq => ?_, fun p hp => ?_⟩, ?_⟩
    · rw [up_ne (by omega)]; exact F2 q i hq
    · by_cases e : p = k
      · rw [e, up_eq]
      · rw [up_ne (by omega)]; exact P2 p (by omega)
    · try dsimp only
      rw [b_X6_copyFrom_52_4, if_neg (show ¬ (48 : Int32) ≤ nI k from nI_ge (b := 48) hk (by omega))]
      have f1 : I2 47 k = I 47 k := (F2 47 k (by omega)).trans (F1 47 k (by omega))
      simp (disch := omega) only [Option.bind_some, am_k_v, am_k_n, ↓n_in, nI_clamp, i_p1, nI_leI, nI_ltI, nI_eq, n_lt0, n_le0, n_eq0, n_gt0, n_lm, n_em, n_me, n_mlt, false_or, or_false, true_or, or_true, false_and, and_false, true_and, and_true, not_false_eq_true, not_true_eq_false, if_true, if_false, if_pos, if_neg, am_b01, am_b0, am_b1, ne_eq, eq_self, reduceCtorEq, rng_t, Bool.and_true, Bool.and_false, Bool.true_and, Bool.false_and, ite_rgI, if_pos rfl, f1]) I1 ⟨fun _ _ _ => rfl, fun p hp => absurd hp (Nat.not_lt_zero p)⟩
  have g4 : ∀ i, I2 43 i = I 43 i := fun i => (F2 43 i (by omega)).trans (F1 43 i (by omega))
  refine ⟨am_up2 (am_up2 (am_up2 I2 33 4 (I 43 4)) 33 5 (I 43 5)) 33 6 (I 43 6), ?_, fun q k hq => ?_, fun p hp => ?_, fun c hc => ?_, ?_, ?_, ?_⟩
  · rw [b_X6_copyFrom_0_4]
    refine Eq.trans e1 ?_
    try dsimp only
    rw [b_X6_copyFrom_2_4, if_pos (show (6 : Int32) ≤ nI 6 by decide)]
    refine Eq.trans e2 ?_
    try dsimp only
    rw [b_X6_copyFrom_52_4, if_pos (show (48 : Int32) ≤ nI 48 by decide)]
    simp (disch := omega) only [up_ne, g4]
  · rw [up_ne (by omega), up_ne (by omega), up_ne (by omega), F2 q k (by omega)]; exact F1 q k (by omega)
  · have := P1 p hp
    exact ⟨by rw [up_ne (by omega), up_ne (by omega), up_ne (by omega), F2 _ _ (by omega)]; exact this.1, by rw [up_ne (by omega), up_ne (by omega), up_ne (by omega), F2 _ _ (by omega)]; exact this.2.1, by rw [up_ne (by omega), up_ne (by omega), up_ne (by omega), F2 _ _ (by omega)]; exact this.2.2⟩
  · rw [up_ne (by omega), up_ne (by omega), up_ne (by omega)]; exact P2 c hc
  · rw [up_ne (by omega), up_ne (by omega), up_eq]
  · rw [up_ne (by omega), up_eq]
  · rw [up_eq]
theorem xi_of (R : RX g I) : (∀ p, p < gP g → I 34 p = nI (g.2.2.1 p) ∧ I 35 p = nI (g.2.2.2.1 p) ∧ I 36 p = g.2.2.2.2.2.1 p) ∧ (∀ c, c < 48 → I 37 c = nI (g.2.1 c)) ∧ I 33 4 = g.2.2.2.2.2.2.1 ∧ I 33 5 = nI g.2.2.2.2.1 ∧ I 33 6 = g.2.2.2.2.2.2.2 := ⟨fun p hp => ⟨rx_A R hp, rx_F R hp, rx_U R hp⟩, fun c hc => rx_H R hc, rx_M R, rx_R R, rx_E R⟩
/-- the reference keeps -/
theorem sp_keep (M : RM g I) (B : BG g) (i o : Nat) (hi : i ≤ 1) (ho : o = 70 * i) : ∃ I', am_ev (am_tbl Ls xs) 73 (21, [(0, .ref 81), (1, .int (nI i)), (2, .int (nI o)), (3, .int 0)], [], (am_sh, I, J)) = some (some (.int 1), (am_sh, I', J)) ∧ (∀ q k, (q ≠ 113 ∧ q ≠ 114) ∨ (q = 113 ∧ (k < o ∨ o + 70 ≤ k)) ∨ (q = 114 ∧ k ≠ i) → I' q k = I q k) ∧ I' 114 i = 1 ∧ MI (gP g) g.2 o I' := by
  have b1 := bg_1 B
  have hfr : ∀ {I1 : Nat → Nat → Int32}, (∀ q k, q ≠ 113 → I1 q k = I q k) → RM g I1 := fun F => rm_cong (fun q k h => F q k (by unfold mS at h; omega)) M
  obtain ⟨I1, ⟨F1, G1, P1⟩, e1⟩ := lpe (N := 6) (f := fun k I' => am_ev (am_tbl Ls xs) 73 (21, [(0, .ref 81), (1, .int (nI i)), (2, .int (nI o)), (3, .int (nI k))], [], (am_sh, I', J))) (V := fun k I' => (∀ q k, q ≠ 113 → I' q k = I q k) ∧ (∀ k, (k < o ∨ o + 70 ≤ k) → I' 113 k = I 113 k) ∧ ∀ p, p < k → p < gP g → I' 113 (o + p) = nI (gA g p) ∧ I' 113 (o + 6 + p) = nI (gF g p) ∧ I' 113 (o + 12 + p) = gU g p) (by
    intro k I1 hk ⟨F1, G1, P1⟩
    have M1 := hfr F1
    have ef : ∃ z, z = (if I 89 k = 0 then (0 : Int32) else 1) ∧ (k < gP g → z = nI (gF g k)) := by
      refine ⟨_, rfl, fun hp => ?_⟩
      have b3 := bg_p B hp
      rw [rm_F M hp]
      by_cases e : gF g k = 0
      · rw [if_pos (by rw [e]; rfl), e]; rfl
      · rw [if_neg (fun z => e ((n_eq0 (by omega)).mp z)), show gF g k = 1 by omega]; rfl
    obtain ⟨z, hz1, hz2⟩ := ef
    refine ⟨am_up2 (am_up2 (am_up2 I1 113 (o + k) (I 87 k)) 113 (o + 6 + k) z) 113 (o + 12 + k) (I 90 k), ⟨fun q j hq => ?_, fun j hj => ?_, fun p hp hp2 => ?_⟩, ?_⟩
    · rw [up_ne (by omega), up_ne (by omega), up_ne (by omega)]; exact F1 q j hq
    · rw [up_ne (by omega), up_ne (by omega), up_ne (by omega)]; exact G1 j hj
    · by_cases e : p = k
      · subst e
        exact ⟨by rw [up_ne (by omega), up_ne (by omega), up_eq]; exact rm_A M hp2, by rw [up_ne (by omega), up_eq]; exact hz2 hp2, by rw [up_eq]; exact rm_U M hp2⟩
      · have := P1 p (by omega) hp2
        exact ⟨by rw [up_ne (by omega), up_ne (by omega), up_ne (by omega)]; exact this.1, by rw [up_ne (by omega), up_ne (by omega), up_ne (by omega)]; exact this.2.1, by rw [up_ne (by omega), up_ne (by omega), up_ne (by omega)]; exact this.2.2⟩
    · have f1 := F1 87 k (by omega)
      have f2 := F1 89 k (by omega)
      have f3 := F1 90 k (by omega)
      try dsimp only
      rw [b_X9_keep_21, if_neg (show ¬ (6 : Int32) ≤ nI k from nI_ge (b := 6) hk (by omega))]
      simp (disch := omega) only [Option.bind_some, am_k_v, am_k_n, ↓n_in, nI_clamp, i_p1, nI_leI, nI_ltI, nI_eq, n_lt0, n_le0, n_eq0, n_gt0, n_lm, n_em, n_me, n_mlt, false_or, or_false, true_or, or_true, false_and, and_false, true_and, and_true, not_false_eq_true, not_true_eq_false, if_true, if_false, if_pos, if_neg, am_b01, am_b0, am_b1, ne_eq, eq_self, reduceCtorEq, rng_t, Bool.and_true, Bool.and_false, Bool.true_and, Bool.false_and, ite_rgI, if_pos rfl, nI_add, show (6 : Int32) = nI 6 from rfl, show (12 : Int32) = nI 12 from rfl, f1, f2, b_X9_keep_65, up_ne, f3]
      rw [hz1]
      by_cases e : I 89 k = 0
      · rw [if_pos e, if_pos e]
      · rw [if_neg e, if_neg e]) I ⟨fun _ _ _ => rfl, fun _ _ => rfl, fun p hp => absurd hp (Nat.not_lt_zero p)⟩
  obtain ⟨I2, ⟨F2, G2, P2, H2⟩, e2⟩ := lpe (N := 48) (f := fun k I' => am_ev (am_tbl Ls xs) 73 (91, [(0, .ref 81), (1, .int (nI i)), (2, .int (nI o)), (3, .int (nI k))], [], (am_sh, I', J))) (V := fun k I' => (∀ q k, q ≠ 113 → I' q k = I q k) ∧ (∀ k, (k < o ∨ o + 70 ≤ k) → I' 113 k = I 113 k) ∧ (∀ p, p < 6 → p < gP g → I' 113 (o + p) = nI (gA g p) ∧ I' 113 (o + 6 + p) = nI (gF g p) ∧ I' 113 (o + 12 + p) = gU g p) ∧ ∀ c, c < k → I' 113 (o + 18 + c) = nI (gH g c)) (by
    intro k I2 hk ⟨F2, G2, P2, H2⟩
    refine ⟨am_up2 I2 113 (o + 18 + k) (nI (gH g k)), ⟨fun q j hq => ?_, fun j hj => ?_, fun p hp hp2 => ?_, fun c hc => ?_⟩, ?_⟩
    · rw [up_ne (by omega)]; exact F2 q j hq
    · rw [up_ne (by omega)]; exact G2 j hj
    · have := P2 p hp hp2
      exact ⟨by rw [up_ne (by omega)]; exact this.1, by rw [up_ne (by omega)]; exact this.2.1, by rw [up_ne (by omega)]; exact this.2.2⟩
    · by_cases e : c = k
      · rw [e, up_eq]
      · rw [up_ne (by omega)]; exact H2 c (by omega)
    · have f1 : I2 82 k = nI (gH g k) := (F2 82 k (by omega)).trans (rm_H M hk)
      try dsimp only
      rw [b_X9_keep_91, if_neg (show ¬ (48 : Int32) ≤ nI k from nI_ge (b := 48) hk (by omega))]
      simp (disch := omega) only [Option.bind_some, am_k_v, am_k_n, ↓n_in, nI_clamp, i_p1, nI_leI, nI_ltI, nI_eq, n_lt0, n_le0, n_eq0, n_gt0, n_lm, n_em, n_me, n_mlt, false_or, or_false, true_or, or_true, false_and, and_false, true_and, and_true, not_false_eq_true, not_true_eq_false, if_true, if_false, if_pos, if_neg, am_b01, am_b0, am_b1, ne_eq, eq_self, reduceCtorEq, rng_t, Bool.and_true, Bool.and_false, Bool.true_and, Bool.false_and, ite_rgI, if_pos rfl, nI_add, show (18 : Int32) = nI 18 from rfl, f1]) I1 ⟨F1, G1, fun p hp hp2 => P1 p hp hp2, fun p hp => absurd hp (Nat.not_lt_zero p)⟩
  have f1 : I2 81 14 = gM g := (F2 81 14 (by omega)).trans (rm_M M)
  have f2 : I2 81 15 = nI (gR g) := (F2 81 15 (by omega)).trans (rm_R M)
  have f3 : I2 81 16 = gE g := (F2 81 16 (by omega)).trans (rm_E M)
  refine ⟨am_up2 (am_up2 (am_up2 (am_up2 I2 113 (o + 66) (gM g)) 113 (o + 67) (nI (gR g))) 113 (o + 68) (gE g)) 114 i 1, ?_, fun q k hq => ?_, ?_, fun p hp => ?_, fun c hc => ?_, ?_, ?_, ?_⟩
  · refine Eq.trans e1 ?_
    try dsimp only
    rw [b_X9_keep_21, if_pos (show (6 : Int32) ≤ nI 6 by decide)]
    refine Eq.trans e2 ?_
    try dsimp only
    rw [b_X9_keep_91, if_pos (show (48 : Int32) ≤ nI 48 by decide)]
    simp (disch := omega) only [Option.bind_some, am_k_v, am_k_n, ↓n_in, nI_clamp, i_p1, nI_leI, nI_ltI, nI_eq, n_lt0, n_le0, n_eq0, n_gt0, n_lm, n_em, n_me, n_mlt, false_or, or_false, true_or, or_true, false_and, and_false, true_and, and_true, not_false_eq_true, not_true_eq_false, if_true, if_false, if_pos, if_neg, am_b01, am_b0, am_b1, ne_eq, eq_self, reduceCtorEq, rng_t, Bool.and_true, Bool.and_false, Bool.true_and, Bool.false_and, ite_rgI, if_pos rfl, nI_add, show (66 : Int32) = nI 66 from rfl, show (67 : Int32) = nI 67 from rfl, show (68 : Int32) = nI 68 from rfl, f1, f2, f3, up_ne]
    rfl
  · rw [up_ne (by omega), up_ne (by omega), up_ne (by omega), up_ne (by omega)]
    by_cases e : q = 113
    · subst e; exact G2 k (by omega)
    · exact F2 q k e
  · rw [up_eq]
  · have := P2 p (by omega) hp
    exact ⟨by rw [up_ne (by omega), up_ne (by omega), up_ne (by omega), up_ne (by omega)]; exact this.1, by rw [up_ne (by omega), up_ne (by omega), up_ne (by omega), up_ne (by omega)]; exact this.2.1, by rw [up_ne (by omega), up_ne (by omega), up_ne (by omega), up_ne (by omega)]; exact this.2.2⟩
  · rw [up_ne (by omega), up_ne (by omega), up_ne (by omega), up_ne (by omega)]; exact H2 c hc
  · rw [up_ne (by omega), up_ne (by omega), up_ne (by omega), up_eq]; rfl
  · rw [up_ne (by omega), up_ne (by omega), up_eq]; rfl
  · rw [up_ne (by omega), up_eq]; rfl
/-- the reference goes back -/
theorem sp_back {s : Vs} (M : RM g I) (B : BG g) (hs : BG (g.1, s)) (o : Nat) (ho : o ≤ 70) (hI : MI (gP g) s o I) : ∃ I', am_ev (am_tbl Ls xs) 74 (34, [(0, .ref 81), (2, .int (nI o)), (3, .int 0)], [], (am_sh, I, J)) = some (some (.int 1), (am_sh, I', J)) ∧ (∀ q k, (q ≠ 87 ∧ q ≠ 89 ∧ q ≠ 90 ∧ q ≠ 82 ∧ (q ≠ 81 ∨ (k ≠ 14 ∧ k ≠ 15 ∧ k ≠ 16))) → I' q k = I q k) ∧ RM (g.1, s) I' := by
  have b1 := bg_1 B
  obtain ⟨I1, ⟨F1, P1⟩, e1⟩ := lpe (N := 6) (f := fun k I' => am_ev (am_tbl Ls xs) 74 (34, [(0, .ref 81), (2, .int (nI o)), (3, .int (nI k))], [], (am_sh, I', J))) (V := fun k I' => (∀ q k, (q ≠ 87 ∧ q ≠ 89 ∧ q ≠ 90) → I' q k = I q k) ∧ ∀ p, p < k → p < gP g → I' 87 p = nI (s.2.1 p) ∧ I' 89 p = nI (s.2.2.1 p) ∧ I' 90 p = s.2.2.2.2.1 p) (by
    intro k I1 hk ⟨F1, P1⟩
    have ef : ∃ z, z = (if I 113 (o + 6 + k) = 1 then (1 : Int32) else 0) ∧ (k < gP g → z = nI (s.2.2.1 k)) := by
      refine ⟨_, rfl, fun hp => ?_⟩
      have b3 := bg_p hs (p := k) hp
      have b4 : s.2.2.1 k ≤ 1 := b3.2.2.1
      rw [(hI.1 k hp).2.1]
      by_cases e : s.2.2.1 k = 1
      · rw [if_pos (by rw [e]; rfl), e]; rfl
      · rw [if_neg (fun z => e ((n_eq1 (by omega)).mp z)), show s.2.2.1 k = 0 by omega]; rfl
    obtain ⟨z, hz1, hz2⟩ := ef
    refine ⟨am_up2 (am_up2 (am_up2 I1 87 k (I 113 (o + k))) 89 k z) 90 k (I 113 (o + 12 + k)), ⟨fun q j hq => ?_, fun p hp hp2 => ?_⟩, ?_⟩
    · rw [up_ne (by omega), up_ne (by omega), up_ne (by omega)]; exact F1 q j hq
    · by_cases e : p = k
      · subst e
        exact ⟨by rw [up_ne (by omega), up_ne (by omega), up_eq]; exact (hI.1 p hp2).1, by rw [up_ne (by omega), up_eq]; exact hz2 hp2, by rw [up_eq]; exact (hI.1 p hp2).2.2⟩
      · have := P1 p (by omega) hp2
        exact ⟨by rw [up_ne (by omega), up_ne (by omega), up_ne (by omega)]; exact this.1, by rw [up_ne (by omega), up_ne (by omega), up_ne (by omega)]; exact this.2.1, by rw [up_ne (by omega), up_ne (by omega), up_ne (by omega)]; exact this.2.2⟩
    · have f1 := F1 113 (o + k) (by omega)
      have f2 := F1 113 (o + 6 + k) (by omega)
      have f3 := F1 113 (o + 12 + k) (by omega)
      try dsimp only
      rw [b_X9_goBack_34, if_neg (show ¬ (6 : Int32) ≤ nI k from nI_ge (b := 6) hk (by omega))]
      simp (disch := omega) only [Option.bind_some, am_k_v, am_k_n, ↓n_in, nI_clamp, i_p1, nI_leI, nI_ltI, nI_eq, n_lt0, n_le0, n_eq0, n_gt0, n_lm, n_em, n_me, n_mlt, false_or, or_false, true_or, or_true, false_and, and_false, true_and, and_true, not_false_eq_true, not_true_eq_false, if_true, if_false, if_pos, if_neg, am_b01, am_b0, am_b1, ne_eq, eq_self, reduceCtorEq, rng_t, Bool.and_true, Bool.and_false, Bool.true_and, Bool.false_and, ite_rgI, if_pos rfl, nI_add, show (6 : Int32) = nI 6 from rfl, show (12 : Int32) = nI 12 from rfl, f1, f2, b_X9_goBack_79, up_ne, f3]
      rw [hz1]
      by_cases e : I 113 (o + 6 + k) = 1
      · rw [if_neg (fun z => z e), if_pos e]; rfl
      · rw [if_pos e, if_neg e]; rfl) I ⟨fun _ _ _ => rfl, fun p hp => absurd hp (Nat.not_lt_zero p)⟩
  obtain ⟨I2, ⟨F2, H2⟩, e2⟩ := lpe (N := 48) (f := fun k I' => am_ev (am_tbl Ls xs) 74 (105, [(0, .ref 81), (2, .int (nI o)), (3, .int (nI k))], [], (am_sh, I', J))) (V := fun k I' => (∀ q k, q ≠ 82 → I' q k = I1 q k) ∧ ∀ c, c < k → I' 82 c = nI (s.1 c)) (by
    intro k I2 hk ⟨F2, H2⟩
    refine ⟨am_up2 I2 82 k (nI (s.1 k)), ⟨fun q j hq => ?_, fun c hc => ?_⟩, ?_⟩
    · rw [up_ne (by omega)]; exact F2 q j hq
    · by_cases e : c = k
      · rw [e, up_eq]
      · rw [up_ne (by omega)]; exact H2 c (by omega)
    · have f1 : I2 113 (o + 18 + k) = nI (s.1 k) := (F2 113 (o + 18 + k) (by omega)).trans ((F1 113 (o + 18 + k) (by omega)).trans (hI.2.1 k hk))
      try dsimp only
      rw [b_X9_goBack_105, if_neg (show ¬ (48 : Int32) ≤ nI k from nI_ge (b := 48) hk (by omega))]
      simp (disch := omega) only [Option.bind_some, am_k_v, am_k_n, ↓n_in, nI_clamp, i_p1, nI_leI, nI_ltI, nI_eq, n_lt0, n_le0, n_eq0, n_gt0, n_lm, n_em, n_me, n_mlt, false_or, or_false, true_or, or_true, false_and, and_false, true_and, and_true, not_false_eq_true, not_true_eq_false, if_true, if_false, if_pos, if_neg, am_b01, am_b0, am_b1, ne_eq, eq_self, reduceCtorEq, rng_t, Bool.and_true, Bool.and_false, Bool.true_and, Bool.false_and, ite_rgI, if_pos rfl, nI_add, show (18 : Int32) = nI 18 from rfl, f1]) I1 ⟨fun _ _ _ => rfl, fun p hp => absurd hp (Nat.not_lt_zero p)⟩
  have g113 : ∀ k, I2 113 k = I 113 k := fun k => (F2 113 k (by omega)).trans (F1 113 k (by omega))
  have f1 : I2 113 (o + 66) = s.2.2.2.2.2.1 := (g113 _).trans hI.2.2.1
  have f2 : I2 113 (o + 67) = nI s.2.2.2.1 := (g113 _).trans hI.2.2.2.1
  have f3 : I2 113 (o + 68) = s.2.2.2.2.2.2 := (g113 _).trans hI.2.2.2.2
  have FF : ∀ q k, (q ≠ 87 ∧ q ≠ 89 ∧ q ≠ 90 ∧ q ≠ 82 ∧ (q ≠ 81 ∨ (k ≠ 14 ∧ k ≠ 15 ∧ k ≠ 16))) → am_up2 (am_up2 (am_up2 I2 81 14 (s.2.2.2.2.2.1)) 81 15 (nI s.2.2.2.1)) 81 16 (s.2.2.2.2.2.2) q k = I q k := fun q k hq => by
    rw [up_ne (by omega), up_ne (by omega), up_ne (by omega), F2 q k (by omega)]; exact F1 q k (by omega)
  refine ⟨am_up2 (am_up2 (am_up2 I2 81 14 (s.2.2.2.2.2.1)) 81 15 (nI s.2.2.2.1)) 81 16 (s.2.2.2.2.2.2), ?_, FF, ⟨⟨(FF _ _ (by omega)).trans (rm_W (g := g) M), (FF _ _ (by omega)).trans (rm_D (g := g) M), (FF _ _ (by omega)).trans (rm_N (g := g) M), (FF _ _ (by omega)).trans (rm_P (g := g) M)⟩, fun h h1 => ⟨(congrArg Int32.toInt (FF _ _ (by omega))).trans (rm_X (g := g) M h1), (congrArg Int32.toInt (FF _ _ (by omega))).trans (rm_Y (g := g) M h1), (FF _ _ (by omega)).trans (rm_L (g := g) M h1), (FF _ _ (by omega)).trans (rm_S (g := g) M h1)⟩, fun p h1 => (FF _ _ (by omega)).trans (rm_T (g := g) M h1), fun c h1 => ?_, fun p h1 => ⟨?_, ?_, ?_⟩, ?_, ?_, ?_⟩⟩
  · refine Eq.trans e1 ?_
    try dsimp only
    rw [b_X9_goBack_34, if_pos (show (6 : Int32) ≤ nI 6 by decide)]
    refine Eq.trans e2 ?_
    try dsimp only
    rw [b_X9_goBack_105, if_pos (show (48 : Int32) ≤ nI 48 by decide)]
    simp (disch := omega) only [Option.bind_some, am_k_v, am_k_n, ↓n_in, nI_clamp, i_p1, nI_leI, nI_ltI, nI_eq, n_lt0, n_le0, n_eq0, n_gt0, n_lm, n_em, n_me, n_mlt, false_or, or_false, true_or, or_true, false_and, and_false, true_and, and_true, not_false_eq_true, not_true_eq_false, if_true, if_false, if_pos, if_neg, am_b01, am_b0, am_b1, ne_eq, eq_self, reduceCtorEq, rng_t, Bool.and_true, Bool.and_false, Bool.true_and, Bool.false_and, ite_rgI, if_pos rfl, nI_add, show (66 : Int32) = nI 66 from rfl, show (67 : Int32) = nI 67 from rfl, show (68 : Int32) = nI 68 from rfl, f1, f2, f3, up_ne]
  · rw [up_ne (by omega), up_ne (by omega), up_ne (by omega)]; exact H2 c h1
  · have h6 : gP g ≤ 6 := b1.2.2.2.2.1
    have h1' : p < gP g := h1
    rw [up_ne (by omega), up_ne (by omega), up_ne (by omega), F2 _ _ (by omega)]; exact (P1 p (by omega) h1').1
  · have h6 : gP g ≤ 6 := b1.2.2.2.2.1
    have h1' : p < gP g := h1
    rw [up_ne (by omega), up_ne (by omega), up_ne (by omega), F2 _ _ (by omega)]; exact (P1 p (by omega) h1').2.1
  · have h6 : gP g ≤ 6 := b1.2.2.2.2.1
    have h1' : p < gP g := h1
    rw [up_ne (by omega), up_ne (by omega), up_ne (by omega), F2 _ _ (by omega)]; exact (P1 p (by omega) h1').2.2
  · rw [up_ne (by omega), up_ne (by omega), up_eq]; rfl
  · rw [up_ne (by omega), up_eq]; rfl
  · rw [up_eq]; rfl
theorem rx_back {s : Vs} (X : RX g I) (B : BG g) (e : ∀ q k, (q < 33 ∨ 37 < q) → I' q k = I q k) (h1 : ∀ p, p < gP g → I' 34 p = nI (s.2.1 p) ∧ I' 35 p = nI (s.2.2.1 p) ∧ I' 36 p = s.2.2.2.2.1 p) (h2 : ∀ c, c < 48 → I' 37 c = nI (s.1 c)) (h3 : I' 33 4 = s.2.2.2.2.2.1 ∧ I' 33 5 = nI s.2.2.2.1 ∧ I' 33 6 = s.2.2.2.2.2.2) : RX (g.1, s) I' := by
  have b1 := bg_1 B
  refine ⟨⟨(e _ _ (by omega)).trans (rx_W (g := g) X), (e _ _ (by omega)).trans (rx_D (g := g) X), (e _ _ (by omega)).trans (rx_C (g := g) X), (e _ _ (by omega)).trans (rx_N (g := g) X), (e _ _ (by omega)).trans (rx_P (g := g) X)⟩, fun h c a1 a2 => ?_, fun h a1 => ⟨(e _ _ (by omega)).trans (rx_L (g := g) X a1), (e _ _ (by omega)).trans (rx_S (g := g) X a1)⟩, fun p a1 => (e _ _ (by omega)).trans (rx_T (g := g) X a1), fun c a1 => ⟨(e _ _ (by omega)).trans (rx_x (g := g) X a1), (e _ _ (by omega)).trans (rx_y (g := g) X a1)⟩, h2, h1, h3⟩
  have a3 : h < gN g := a1
  exact (e _ _ (by omega)).trans (rx_o (g := g) X a1 a2)
end
