/-! DAYS: both sides -/
def frD (I I' : Nat → Nat → Int32) : Prop := ∀ q k, (q ≠ 33 ∧ q ≠ 34 ∧ q ≠ 36) → I' q k = I q k
def frN (I I' : Nat → Nat → Int32) : Prop := ∀ q k, (q ≠ 87 ∧ q ≠ 90 ∧ q ≠ 99 ∧ (q ≠ 81 ∨ (k ≠ 14 ∧ k ≠ 16))) → I' q k = I q k
theorem frD_tr {I I' I'' : Nat → Nat → Int32} (h1 : frD I I') (h2 : frD I' I'') : frD I I'' := fun q k h => (h2 q k h).trans (h1 q k h)
theorem frN_tr {I I' I'' : Nat → Nat → Int32} (h1 : frN I I') (h2 : frN I' I'') : frN I I'' := fun q k h => (h2 q k h).trans (h1 q k h)
theorem nI_m1 {n : Nat} : nI n - 1 = if 1 ≤ n then nI (n - 1) else -1 := by
  split
  · rw [show (1 : Int32) = nI 1 from rfl, pk_sub (by omega)]
  · rw [show n = 0 by omega]; rfl
section
variable {Ls : Nat} {xs : Nat → Int32} {g : Vg} {r : Vr} {I I' : Nat → Nat → Int32} {J : Nat → Nat → Int64}
theorem rx_setE {z : Int32} (X : RX g I) (B : BG g) : RX (setE g z) (am_up2 I 33 6 z) := rx_33 X B (setE g z) (Or.inr ⟨rfl, rfl, rfl, rfl, rfl⟩) ((up_ne (by omega)).trans (rx_M (g := g) X)) ((up_ne (by omega)).trans (rx_R (g := g) X)) up_eq
theorem rm_setE {z : Int32} (M : RM g I) : RM (setE g z) (am_up2 I 81 16 z) := rm_81 M (setE g z) (by omega) ⟨rfl, rfl, rfl, rfl, rfl⟩ ((up_ne (by omega)).trans (rm_M (g := g) M)) ((up_ne (by omega)).trans (rm_R (g := g) M)) up_eq
theorem sx_draw (X : RX g I) (S : BS g) {k : Nat} (hk : 1 ≤ k ∧ k < 2147483648) : am_ev (am_tbl Ls xs) 186 (0, [(0, .ref 33), (1, .int (nI k))], [], (am_sh, I, J)) = some (some (.int (nI (dv g k))), (am_sh, am_up2 I 33 6 (nI (nxt (se g))), J)) := by
  obtain ⟨e1, e2⟩ := se_i S.2.2
  have hn := nxt_lt (n := se g)
  rw [b_X6_draw_0, if_pos (show (1 : Int32) ≤ nI k from nI_le (a := 1) hk.1 (by omega)), rx_E X, e1, x_nxt e2, b_X6_draw_29, up_eq]
  simp (disch := omega) only [Option.bind_some, am_k_v, am_k_n, ↓n_in, nI_clamp, i_p1, nI_leI, nI_ltI, nI_eq, n_lt0, n_le0, n_eq0, n_gt0, n_lm, n_em, n_me, n_mlt, false_or, or_false, true_or, or_true, false_and, and_false, true_and, and_true, not_false_eq_true, not_true_eq_false, if_true, if_false, if_pos, if_neg, am_b01, am_b0, am_b1, ne_eq, eq_self, reduceCtorEq, rng_t, Bool.and_true, Bool.and_false, Bool.true_and, Bool.false_and, ite_rgI, if_pos rfl, show (65536 : Int32) = nI 65536 from rfl, pk_div, pk_mul, n_rem]
  rfl
theorem sp_draw (M : RM g I) (S : BS g) {k : Nat} (hk : 1 ≤ k ∧ k < 2147483648) : am_ev (am_tbl Ls xs) 47 (0, [(0, .ref 81), (1, .int (nI k))], [], (am_sh, I, J)) = some (some (.int (nI (dv g k))), (am_sh, am_up2 I 81 16 (nI (nxt (se g))), J)) := by
  obtain ⟨e1, e2⟩ := se_i S.2.2
  have hn := nxt_lt (n := se g)
  rw [b_X9_draw_0, rm_E M, e1, m_nxt e2, b_X9_draw_22, up_eq]
  simp (disch := omega) only [Option.bind_some, am_k_v, am_k_n, ↓n_in, nI_clamp, i_p1, nI_leI, nI_ltI, nI_eq, n_lt0, n_le0, n_eq0, n_gt0, n_lm, n_em, n_me, n_mlt, false_or, or_false, true_or, or_true, false_and, and_false, true_and, and_true, not_false_eq_true, not_true_eq_false, if_true, if_false, if_pos, if_neg, am_b01, am_b0, am_b1, ne_eq, eq_self, reduceCtorEq, rng_t, Bool.and_true, Bool.and_false, Bool.true_and, Bool.false_and, ite_rgI, if_pos rfl, show (65536 : Int32) = nI 65536 from rfl, pk_div, pk_mul, n_rem]
  rfl
theorem dv_lt {k : Nat} (hk : 1 ≤ k) : dv g k < k := Nat.mod_lt _ (by omega)
theorem sx_shares (X : RX g I) (B : BG g) : am_ev (am_tbl Ls xs) 141 (0, [(0, .ref 18)], [], (am_sh, I, J)) = some (some (.int (nI (shS g (gN g)))), (am_sh, I, J)) := by
  have b1 := bg_1 B
  rw [b_X2_allShares_0]
  refine (lp (N := gN g) (f := fun k => am_ev (am_tbl Ls xs) 141 (4, [(0, .ref 18), (1, .int (nI (shS g k))), (2, .int (nI k))], [], (am_sh, I, J))) ?_).trans ?_
  · intro k hk
    try dsimp only
    rw [b_X2_allShares_4]
    simp (disch := omega) only [Option.bind_some, am_k_v, am_k_n, ↓n_in, nI_clamp, i_p1, nI_leI, nI_ltI, nI_eq, n_lt0, n_le0, n_eq0, n_gt0, n_lm, n_em, n_me, n_mlt, false_or, or_false, true_or, or_true, false_and, and_false, true_and, and_true, not_false_eq_true, not_true_eq_false, if_true, if_false, if_pos, if_neg, am_b01, am_b0, am_b1, ne_eq, eq_self, reduceCtorEq, rng_t, Bool.and_true, Bool.and_false, Bool.true_and, Bool.false_and, ite_rgI, if_pos rfl, rx_N X, rx_S X, nI_add]
    rfl
  · try dsimp only
    rw [b_X2_allShares_4]
    simp (disch := omega) only [Option.bind_some, am_k_v, am_k_n, ↓n_in, nI_clamp, i_p1, nI_leI, nI_ltI, nI_eq, n_lt0, n_le0, n_eq0, n_gt0, n_lm, n_em, n_me, n_mlt, false_or, or_false, true_or, or_true, false_and, and_false, true_and, and_true, not_false_eq_true, not_true_eq_false, if_true, if_false, if_pos, if_neg, am_b01, am_b0, am_b1, ne_eq, eq_self, reduceCtorEq, rng_t, Bool.and_true, Bool.and_false, Bool.true_and, Bool.false_and, ite_rgI, if_pos rfl, rx_N X]
theorem sx_hourOf (X : RX g I) (B : BG g) {v : Nat} (hv : v < shS g (gN g)) : am_ev (am_tbl Ls xs) 142 (0, [(0, .ref 18), (1, .int (nI v))], [], (am_sh, I, J)) = some (some (.int (nI (fstB (hrP g v) (gN g)))), (am_sh, I, J)) := by
  have b1 := bg_1 B
  obtain ⟨h, h1, h2, h3, h4⟩ := hr_ex hv
  have hle : ∀ k, k ≤ gN g → shS g k ≤ 120 := fun k hk => shS_le B hk
  have h5 := hle (gN g) (Nat.le_refl _)
  rw [h4, b_X2_hourOfShare_0]
  refine (lp (N := h) (f := fun k => am_ev (am_tbl Ls xs) 142 (4, [(0, .ref 18), (1, .int (nI v)), (2, .int (nI (shS g k))), (3, .int (nI k))], [], (am_sh, I, J))) ?_).trans ?_
  · intro k hk
    have h6 := h3 k hk
    have h7 := hle (k + 1) (by omega)
    have h8 : shS g k + gS g k = shS g (k + 1) := rfl
    try dsimp only
    rw [b_X2_hourOfShare_4]
    simp (disch := omega) only [Option.bind_some, am_k_v, am_k_n, ↓n_in, nI_clamp, i_p1, nI_leI, nI_ltI, nI_eq, n_lt0, n_le0, n_eq0, n_gt0, n_lm, n_em, n_me, n_mlt, false_or, or_false, true_or, or_true, false_and, and_false, true_and, and_true, not_false_eq_true, not_true_eq_false, if_true, if_false, if_pos, if_neg, am_b01, am_b0, am_b1, ne_eq, eq_self, reduceCtorEq, rng_t, Bool.and_true, Bool.and_false, Bool.true_and, Bool.false_and, ite_rgI, if_pos rfl, rx_N X, rx_S X, nI_add, h8]
  · have h7 := hle (h + 1) (by omega)
    have h8 : shS g h + gS g h = shS g (h + 1) := rfl
    try dsimp only
    rw [b_X2_hourOfShare_4]
    simp (disch := omega) only [Option.bind_some, am_k_v, am_k_n, ↓n_in, nI_clamp, i_p1, nI_leI, nI_ltI, nI_eq, n_lt0, n_le0, n_eq0, n_gt0, n_lm, n_em, n_me, n_mlt, false_or, or_false, true_or, or_true, false_and, and_false, true_and, and_true, not_false_eq_true, not_true_eq_false, if_true, if_false, if_pos, if_neg, am_b01, am_b0, am_b1, ne_eq, eq_self, reduceCtorEq, rng_t, Bool.and_true, Bool.and_false, Bool.true_and, Bool.false_and, ite_rgI, if_pos rfl, rx_N X, rx_S X, nI_add, h8]
theorem sx_drawHour (X : RX g I) (S : BS g) {q : Nat} (hq : I 18 5 = nI q) (hq2 : q ≤ 100) : ∃ I', am_ev (am_tbl Ls xs) 106 (0, [(0, .ref 0)], [], (am_sh, I, J)) = some (some (.int (oI (hrW g q))), (am_sh, I', J)) ∧ RX (hrG g q) I' ∧ frD I I' := by
  have B := S.1
  have b1 := bg_1 B
  have X1 := rx_setE (z := nI (nxt (se g))) X B
  have F1 : frD I (am_up2 I 33 6 (nI (nxt (se g)))) := fun q k h => up_ne (by omega)
  have d1 := dv_lt (g := g) (k := 100) (by omega)
  have s1 := shS_le B (Nat.le_refl (gN g))
  have hsh : am_ev (am_tbl Ls xs) 141 (0, [(0, .ref 18)], [], (am_sh, am_up2 I 33 6 (nI (nxt (se g))), J)) = some (some (.int (nI (shS g (gN g)))), (am_sh, am_up2 I 33 6 (nI (nxt (se g))), J)) := sx_shares (g := dE g) X1 (bs_dE S).1
  have hq1 : am_up2 I 33 6 (nI (nxt (se g))) 18 5 = nI q := (up_ne (by omega)).trans hq
  have e0 : am_ev (am_tbl Ls xs) 106 (0, [(0, .ref 0)], [], (am_sh, I, J)) = am_ev (am_tbl Ls xs) 106 (9, [(0, .ref 0)], [.int (nI (dv g 100))], (am_sh, am_up2 I 33 6 (nI (nxt (se g))), J)) := by
    rw [b_X8_drawHour_0, show (100 : Int32) = nI 100 from rfl, sx_draw X S (by omega), Option.bind_some, am_k_v]
  by_cases h1 : dv g 100 < q
  · refine ⟨am_up2 I 33 6 (nI (nxt (se g))), ?_, ?_, F1⟩
    · rw [e0, b_X8_drawHour_9, hq1, if_neg (nI_ge h1 (by omega))]
      unfold hrW
      rw [if_pos (Or.inl h1)]
      rfl
    · unfold hrG
      rw [if_pos (Or.inl h1)]
      exact X1
  · by_cases h2 : shS g (gN g) = 0
    · refine ⟨am_up2 I 33 6 (nI (nxt (se g))), ?_, ?_, F1⟩
      · rw [e0, b_X8_drawHour_9, hq1, if_pos (nI_le (by omega) (by omega)), hsh, Option.bind_some, am_k_v, b_X8_drawHour_28, if_neg (show ¬ nI (shS g (gN g)) ≠ 0 by rw [h2]; simp [nI_0])]
        unfold hrW
        rw [if_pos (Or.inr h2)]
        rfl
      · unfold hrG
        rw [if_pos (Or.inr h2)]
        exact X1
    · have hno : ¬ (dv g 100 < q ∨ shS g (gN g) = 0) := fun z => z.elim h1 h2
      have S1 := bs_dE S
      have X2 := rx_setE (z := nI (nxt (se (dE g)))) X1 S1.1
      have d2 := dv_lt (g := dE g) (k := shS g (gN g)) (by omega)
      have hof : am_ev (am_tbl Ls xs) 142 (0, [(0, .ref 18), (1, .int (nI (dv (dE g) (shS g (gN g)))))], [], (am_sh, am_up2 (am_up2 I 33 6 (nI (nxt (se g)))) 33 6 (nI (nxt (se (dE g)))), J)) = some (some (.int (nI (fstB (hrP g (dv (dE g) (shS g (gN g)))) (gN g)))), (am_sh, am_up2 (am_up2 I 33 6 (nI (nxt (se g)))) 33 6 (nI (nxt (se (dE g)))), J)) := sx_hourOf (g := dE (dE g)) X2 (bs_dE S1).1 d2
      refine ⟨am_up2 (am_up2 I 33 6 (nI (nxt (se g)))) 33 6 (nI (nxt (se (dE g)))), ?_, ?_, fun q k h => by rw [up_ne (by omega)]; exact F1 q k h⟩
      · rw [e0, b_X8_drawHour_9, hq1, if_pos (nI_le (by omega) (by omega)), hsh, Option.bind_some, am_k_v, b_X8_drawHour_28, if_pos (show nI (shS g (gN g)) ≠ 0 from fun z => h2 ((n_eq0 (by omega)).mp z)), sx_draw (g := dE g) X1 S1 (by omega), Option.bind_some, am_k_v, b_X8_drawHour_47, hof, Option.bind_some, am_k_v, b_X8_drawHour_50]
        unfold hrW
        rw [if_neg hno]
        rfl
      · unfold hrG
        rw [if_neg hno]
        exact X2
theorem rx_X {U : Nat → Int32} {M E : Int32} (R : RX g I) (B : BG g) (e : ∀ q k, (q ≠ 33 ∧ q ≠ 36) → I' q k = I q k) (hU : ∀ p, p < gP g → I' 36 p = U p) (h4 : I' 33 4 = M) (h5 : I' 33 5 = nI (gR g)) (h6 : I' 33 6 = E) : RX (setX g U M E) I' := by
  have b1 := bg_1 B
  obtain ⟨⟨a1, a2, a3, a4, a5⟩, b, c1, d, f, h, k, l, m, n⟩ := R
  refine ⟨⟨(e _ _ (by omega)).trans a1, (e _ _ (by omega)).trans a2, (e _ _ (by omega)).trans a3, (e _ _ (by omega)).trans a4, (e _ _ (by omega)).trans a5⟩, fun h c h1 h2 => ?_, fun h h1 => ⟨(e _ _ (by omega)).trans (c1 h h1).1, (e _ _ (by omega)).trans (c1 h h1).2⟩, fun p h1 => (e _ _ (by omega)).trans (d p h1), fun c h1 => ⟨(e _ _ (by omega)).trans (f c h1).1, (e _ _ (by omega)).trans (f c h1).2⟩, fun c h1 => (e _ _ (by omega)).trans (h c h1), fun p h1 => ⟨(e _ _ (by omega)).trans (k p h1).1, (e _ _ (by omega)).trans (k p h1).2.1, hU p h1⟩, h4, h5, h6⟩
  have h3 : h < gN g := h1
  exact (e _ _ (by omega)).trans (b h c h1 h2)
theorem rm_Xs {U : Nat → Int32} {M E : Int32} (R : RM g I) (e : ∀ q k, (q ≠ 90 ∧ q ≠ 99 ∧ (q ≠ 81 ∨ (k ≠ 14 ∧ k ≠ 16))) → I' q k = I q k) (hU : ∀ p, p < gP g → I' 90 p = U p) (h4 : I' 81 14 = M) (h6 : I' 81 16 = E) : RM (setX g U M E) I' := by
  obtain ⟨⟨a1, a2, a3, a4⟩, b, d, h, k, l, m, n⟩ := R
  exact ⟨⟨(e _ _ (by omega)).trans a1, (e _ _ (by omega)).trans a2, (e _ _ (by omega)).trans a3, (e _ _ (by omega)).trans a4⟩, fun h h1 => ⟨(congrArg Int32.toInt (e _ _ (by omega))).trans (b h h1).1, (congrArg Int32.toInt (e _ _ (by omega))).trans (b h h1).2.1, (e _ _ (by omega)).trans (b h h1).2.2.1, (e _ _ (by omega)).trans (b h h1).2.2.2⟩, fun p h1 => (e _ _ (by omega)).trans (d p h1), fun c h1 => (e _ _ (by omega)).trans (h c h1), fun p h1 => ⟨(e _ _ (by omega)).trans (k p h1).1, (e _ _ (by omega)).trans (k p h1).2.1, hU p h1⟩, h4, (e _ _ (by omega)).trans m, h6⟩
theorem sx_payAt (X : RX g I) (S : BS g) (D : RD g J) {o : Option Nat} (ho : ∀ h, o = some h → h < gN g) : ∃ I', am_ev (am_tbl Ls xs) 107 (0, [(0, .ref 0), (1, .int (oI o))], [], (am_sh, I, J)) = some (none, (am_sh, I', J)) ∧ RX (payO g o) I' ∧ frD I I' := by
  have B := S.1
  have b1 := bg_1 B
  cases o with
  | none =>
    refine ⟨I, ?_, X, fun _ _ _ => rfl⟩
    rw [b_X8_payAt_0, show oI none = -1 from rfl, sx_hourA X, rng_m1, Option.bind_some, am_k_v, b_X8_payAt_8, if_neg (by simp [am_b])]
  | some h =>
    have hh := ho h rfl
    obtain ⟨I1, ⟨F1, X1⟩, e1⟩ := lpe (N := gP g) (f := fun k I' => am_ev (am_tbl Ls xs) 107 (14, [(0, .ref 0), (1, .int (nI h)), (2, .int (nI k))], [], (am_sh, I', J))) (V := fun k I' => (∀ q k, (q ≠ 33 ∧ q ≠ 36) → I' q k = I q k) ∧ RX (payK g h k) I') (by
      intro k I1 hk ⟨F1, X1⟩
      have b3 := bg_p B hk
      have S1 : BS (payK g h k) := bs_pay S
      have D1 : RD (payK g h k) J := rd_same (g := g) rfl rfl D
      have ho := sx_owedAt (Ls := Ls) (xs := xs) X1 S1.1 D1 (p := k) (c := gA g k) (h := h) hk b3.2.2.2 hh
      rw [show owN (payK g h k) k (gA g k) (tl (payK g h k) k) none h = obW g k h from owN_X] at ho
      have eA : I1 34 k = nI (gA g k) := rx_A (g := payK g h k) X1 hk
      have eU : I1 36 k = gU g k := by
        have := rx_U (g := payK g h k) X1 hk
        rw [this]
        show (if k < k then _ else gU g k) = gU g k
        rw [if_neg (Nat.lt_irrefl k)]
      have eM : I1 33 4 = pyM g h k := rx_M (g := payK g h k) X1
      have eR : I1 33 5 = nI (gR g) := rx_R (g := payK g h k) X1
      have eE : I1 33 6 = gE g := rx_E (g := payK g h k) X1
      have eP : I1 18 4 = nI (gP g) := (F1 18 4 (by omega)).trans (rx_P X)
      refine ⟨am_up2 (am_up2 I1 36 k (gU g k - nI (obW g k h))) 33 4 (pyM g h k + nI (obW g k h)), ⟨fun q i hq => ?_, ?_⟩, ?_⟩
      · rw [up_ne (by omega), up_ne (by omega)]; exact F1 q i hq
      · refine rx_X X B (fun q i hq => ?_) (fun p hp => ?_) ?_ ?_ ?_
        · rw [up_ne (by omega), up_ne (by omega)]; exact F1 q i hq
        · rw [up_ne (by omega)]
          by_cases e : p = k
          · rw [e, up_eq, if_pos (by omega)]
          · rw [up_ne (by omega)]
            have := rx_U (g := payK g h k) X1 hp
            rw [this]
            show (if p < k then _ else gU g p) = if p < k + 1 then _ else gU g p
            by_cases e2 : p < k
            · rw [if_pos e2, if_pos (by omega)]
            · rw [if_neg e2, if_neg (by omega)]
        · rw [up_eq]; rfl
        · rw [up_ne (by omega), up_ne (by omega)]; exact eR
        · rw [up_ne (by omega), up_ne (by omega)]; exact eE
      · try dsimp only
        rw [b_X8_payAt_14]
        simp (disch := omega) only [Option.bind_some, am_k_v, am_k_n, ↓n_in, nI_clamp, i_p1, nI_leI, nI_ltI, nI_eq, n_lt0, n_le0, n_eq0, n_gt0, n_lm, n_em, n_me, n_mlt, false_or, or_false, true_or, or_true, false_and, and_false, true_and, and_true, not_false_eq_true, not_true_eq_false, if_true, if_false, if_pos, if_neg, am_b01, am_b0, am_b1, ne_eq, eq_self, reduceCtorEq, rng_t, Bool.and_true, Bool.and_false, Bool.true_and, Bool.false_and, ite_rgI, if_pos rfl, eP, eA, ho, b_X8_payAt_43, eU, eM]) I ⟨fun _ _ _ => rfl, X⟩
    have eP : I1 18 4 = nI (gP g) := (F1 18 4 (by omega)).trans (rx_P X)
    refine ⟨I1, ?_, X1, fun q k h => F1 q k (by omega)⟩
    rw [b_X8_payAt_0, show oI (some h) = nI h from rfl, sx_hourA X, rng_t ⟨hh, by omega⟩, Option.bind_some, am_k_v, b_X8_payAt_8, if_pos (by simp [am_b])]
    refine Eq.trans e1 ?_
    try dsimp only
    rw [b_X8_payAt_14, eP, if_pos (nI_le (by omega) (by omega))]
theorem sx_cellAt1 (X : RX g I) (B : BG g) {a b : Nat} (ha : a < 1000) (hb : b < 1000) : am_ev (am_tbl Ls xs) 137 (0, [(0, .ref 18), (1, .int (nI a - 1)), (2, .int (nI b - 1))], [], (am_sh, I, J)) = some (some (.int ((if (1 ≤ a ∧ a ≤ gW g) ∧ 1 ≤ b ∧ b ≤ gD g then nI (cix g (a - 1) (b - 1)) else -1))), (am_sh, I, J)) := by
  have b1 := bg_1 B
  by_cases hx : 1 ≤ a ∧ a ≤ gW g
  · by_cases hy : 1 ≤ b ∧ b ≤ gD g
    · rw [if_pos ⟨hx, hy⟩, nI_m1, nI_m1, if_pos hx.1, if_pos hy.1, sx_cellAtT X B (by omega) (by omega)]
    · rw [if_neg (fun q => hy q.2)]
      refine sx_cellAtF X B (Or.inr ?_)
      rw [nI_m1]
      by_cases h0 : 1 ≤ b
      · rw [if_pos h0]; exact rng_big (by omega)
      · rw [if_neg h0]; exact rng_m1
  · rw [if_neg (fun q => hx q.1)]
    refine sx_cellAtF X B (Or.inl ?_)
    rw [nI_m1]
    by_cases h0 : 1 ≤ a
    · rw [if_pos h0]; exact rng_big (by omega)
    · rw [if_neg h0]; exact rng_m1
theorem rng_1 {n a : Nat} (hn : n < 1000) (ha : a < 1000) : rng n (nI a - 1) = decide (1 ≤ a ∧ a ≤ n) := by
  rw [nI_m1]
  by_cases h0 : 1 ≤ a
  · rw [if_pos h0]
    by_cases h1 : a ≤ n
    · rw [rng_t ⟨by omega, by omega⟩, decide_eq_true ⟨h0, h1⟩]
    · rw [rng_big ⟨by omega, by omega⟩, decide_eq_false (fun z => h1 z.2)]
  · rw [if_neg h0, rng_m1, decide_eq_false (fun z => h0 z.1)]
theorem sx_wander (X : RX g I) (S : BS g) : ∃ I', am_ev (am_tbl Ls xs) 108 (0, [(0, .ref 0)], [], (am_sh, I, J)) = some (none, (am_sh, I', J)) ∧ RX (wdL g (gP g)) I' ∧ frD I I' := by
  have B := S.1
  have b1 := bg_1 B
  obtain ⟨I1, ⟨F1, X1⟩, e1⟩ := lpe (N := gP g) (f := fun k I' => am_ev (am_tbl Ls xs) 108 (2, [(0, .ref 0), (1, .int (nI k))], [], (am_sh, I', J))) (V := fun k I' => frD I I' ∧ RX (wdL g k) I') (by
    intro k I1 hk ⟨F1, X1⟩
    have S1 := bs_wdL S k (by omega)
    have hP : gP (wdL g k) = gP g := gP_of (wdL_1 k).1
    show ∃ I2, (frD I I2 ∧ RX (wdS (wdL g k) k) I2) ∧ _
    generalize wdL g k = w at X1 S1 hP
    have hk2 : k < gP w := by omega
    have B1 := S1.1
    have c1 := bg_1 B1
    have c2 := bg_p B1 hk2
    have hd9 := dv_lt (g := w) (k := 9) (by omega)
    have hW : 0 < gW w := by
      rcases c1.2.2.2.2.2.2 with z | z
      · omega
      · omega
    have hm := Nat.mod_lt (gA w k) hW
    have hdv : gA w k / gW w < gD w := Nat.div_lt_of_lt_mul c2.2.2.2
    have XE := rx_setE (z := nI (nxt (se w))) X1 B1
    have BE := (bs_dE S1).1
    have eA : am_up2 I1 33 6 (nI (nxt (se w))) 34 k = nI (gA w k) := rx_A (g := setE w (nI (nxt (se w)))) XE hk2
    have hcol : am_ev (am_tbl Ls xs) 138 (0, [(0, .ref 18), (1, .int (nI (gA w k)))], [], (am_sh, am_up2 I1 33 6 (nI (nxt (se w))), J)) = some (some (.int (nI (gA w k % gW w))), (am_sh, am_up2 I1 33 6 (nI (nxt (se w))), J)) := sx_columnOf (g := dE w) XE BE c2.2.2.2
    have hlin : am_ev (am_tbl Ls xs) 139 (0, [(0, .ref 18), (1, .int (nI (gA w k)))], [], (am_sh, am_up2 I1 33 6 (nI (nxt (se w))), J)) = some (some (.int (nI (gA w k / gW w))), (am_sh, am_up2 I1 33 6 (nI (nxt (se w))), J)) := sx_lineOf (g := dE w) XE BE c2.2.2.2
    have hcel : am_ev (am_tbl Ls xs) 137 (0, [(0, .ref 18), (1, .int (nI (gA w k % gW w + dv w 9 % 3) - 1)), (2, .int (nI (gA w k / gW w + dv w 9 / 3) - 1))], [], (am_sh, am_up2 I1 33 6 (nI (nxt (se w))), J)) = some (some (.int ((if (1 ≤ gA w k % gW w + dv w 9 % 3 ∧ gA w k % gW w + dv w 9 % 3 ≤ gW w) ∧ 1 ≤ gA w k / gW w + dv w 9 / 3 ∧ gA w k / gW w + dv w 9 / 3 ≤ gD w then nI (cix w (gA w k % gW w + dv w 9 % 3 - 1) (gA w k / gW w + dv w 9 / 3 - 1)) else -1))), (am_sh, am_up2 I1 33 6 (nI (nxt (se w))), J)) := sx_cellAt1 (g := dE w) XE BE (by omega) (by omega)
    have eP : I1 18 4 = nI (gP g) := (F1 18 4 (by omega)).trans (rx_P X)
    have e80 : am_ev (am_tbl Ls xs) 108 (2, [(0, .ref 0), (1, .int (nI k))], [], (am_sh, I1, J)) = am_ev (am_tbl Ls xs) 108 (80, [(4, .int (nI (gA w k / gW w + dv w 9 / 3) - 1)), (3, .int (nI (gA w k % gW w + dv w 9 % 3) - 1)), (2, .int (nI (dv w 9))), (0, .ref 0), (1, .int (nI k))], [.int ((if (1 ≤ gA w k % gW w + dv w 9 % 3 ∧ gA w k % gW w + dv w 9 % 3 ≤ gW w) ∧ 1 ≤ gA w k / gW w + dv w 9 / 3 ∧ gA w k / gW w + dv w 9 / 3 ≤ gD w then nI (cix w (gA w k % gW w + dv w 9 % 3 - 1) (gA w k / gW w + dv w 9 / 3 - 1)) else -1))], (am_sh, am_up2 I1 33 6 (nI (nxt (se w))), J)) := by
      rw [b_X8_wander_2, eP, if_neg (nI_ge hk (by omega)), show (9 : Int32) = nI 9 from rfl, sx_draw X1 S1 (by omega), Option.bind_some, am_k_v, b_X8_wander_22]
      simp (disch := omega) only [Option.bind_some, am_k_v, am_k_n, ↓n_in, nI_clamp, i_p1, nI_leI, nI_ltI, nI_eq, n_lt0, n_le0, n_eq0, n_gt0, n_lm, n_em, n_me, n_mlt, false_or, or_false, true_or, or_true, false_and, and_false, true_and, and_true, not_false_eq_true, not_true_eq_false, if_true, if_false, if_pos, if_neg, am_b01, am_b0, am_b1, ne_eq, eq_self, reduceCtorEq, rng_t, Bool.and_true, Bool.and_false, Bool.true_and, Bool.false_and, ite_rgI, if_pos rfl, eA, hcol, b_X8_wander_39, hlin, b_X8_wander_62, show (3 : Int32) = nI 3 from rfl, pk_div, pk_mul, n_rem, nI_add, hcel]
    unfold wdS
    by_cases hin : (1 ≤ gA w k % gW w + dv w 9 % 3 ∧ gA w k % gW w + dv w 9 % 3 ≤ gW w) ∧ 1 ≤ gA w k / gW w + dv w 9 / 3 ∧ gA w k / gW w + dv w 9 / 3 ≤ gD w
    · rw [if_pos hin] at e80
      have ht := cix_lt (g := w) (show gA w k % gW w + dv w 9 % 3 - 1 < gW w by omega) (show gA w k / gW w + dv w 9 / 3 - 1 < gD w by omega)
      generalize gA w k % gW w + dv w 9 % 3 = a at hin ht e80 ⊢
      generalize gA w k / gW w + dv w 9 / 3 = b at hin ht e80 ⊢
      generalize cix w (a - 1) (b - 1) = t at ht e80 ⊢
      have eH : am_up2 I1 33 6 (nI (nxt (se w))) 37 t = nI (gH w t) := rx_H (g := setE w (nI (nxt (se w)))) XE (show t < 48 by omega)
      have b9 := bg_H B1 (show t < 48 by omega)
      by_cases h0 : gH w t = 0
      · refine ⟨am_up2 (am_up2 I1 33 6 (nI (nxt (se w)))) 34 k (nI t), ⟨fun q i hq => ?_, ?_⟩, ?_⟩
        · rw [up_ne (by omega), up_ne (by omega)]; exact F1 q i hq
        · rw [if_pos ⟨hin, h0⟩]
          exact rx_setA (g := dE w) XE BE hk2
        · try dsimp only
          refine e80.trans ?_
          rw [b_X8_wander_80]
          simp (disch := omega) only [Option.bind_some, am_k_v, am_k_n, ↓n_in, nI_clamp, i_p1, nI_leI, nI_ltI, nI_eq, n_lt0, n_le0, n_eq0, n_gt0, n_lm, n_em, n_me, n_mlt, false_or, or_false, true_or, or_true, false_and, and_false, true_and, and_true, not_false_eq_true, not_true_eq_false, if_true, if_false, if_pos, if_neg, am_b01, am_b0, am_b1, ne_eq, eq_self, reduceCtorEq, rng_t, Bool.and_true, Bool.and_false, Bool.true_and, Bool.false_and, ite_rgI, if_pos rfl, eH, h0, b_X8_wander_112]
      · refine ⟨am_up2 I1 33 6 (nI (nxt (se w))), ⟨fun q i hq => ?_, ?_⟩, ?_⟩
        · rw [up_ne (by omega)]; exact F1 q i hq
        · rw [if_neg (fun z => h0 z.2)]
          exact XE
        · try dsimp only
          refine e80.trans ?_
          rw [b_X8_wander_80]
          simp (disch := omega) only [Option.bind_some, am_k_v, am_k_n, ↓n_in, nI_clamp, i_p1, nI_leI, nI_ltI, nI_eq, n_lt0, n_le0, n_eq0, n_gt0, n_lm, n_em, n_me, n_mlt, false_or, or_false, true_or, or_true, false_and, and_false, true_and, and_true, not_false_eq_true, not_true_eq_false, if_true, if_false, if_pos, if_neg, am_b01, am_b0, am_b1, ne_eq, eq_self, reduceCtorEq, rng_t, Bool.and_true, Bool.and_false, Bool.true_and, Bool.false_and, ite_rgI, if_pos rfl, eH, h0, b_X8_wander_112]
    · rw [if_neg hin] at e80
      refine ⟨am_up2 I1 33 6 (nI (nxt (se w))), ⟨fun q i hq => ?_, ?_⟩, ?_⟩
      · rw [up_ne (by omega)]; exact F1 q i hq
      · rw [if_neg (fun z => hin z.1)]
        exact XE
      · try dsimp only
        refine e80.trans ?_
        rw [b_X8_wander_80, if_pos rfl, b_X8_wander_112, i_p1]) I ⟨fun _ _ _ => rfl, X⟩
  have eP : I1 18 4 = nI (gP g) := (F1 18 4 (by omega)).trans (rx_P X)
  refine ⟨I1, ?_, X1, F1⟩
  rw [b_X8_wander_0]
  refine Eq.trans e1 ?_
  try dsimp only
  rw [b_X8_wander_2, eP, if_pos (nI_le (by omega) (by omega))]
theorem hrW_lt {q h : Nat} (hh : hrW g q = some h) : h < gN g := by
  unfold hrW at hh
  split at hh
  · cases hh
  · rename_i hno
    cases hh
    have d2 := dv_lt (g := dE g) (k := shS g (gN g)) (by omega)
    obtain ⟨h, h1, h2, h3, h4⟩ := hr_ex d2
    rw [h4]; exact h1
theorem sx_days (X : RX g I) (S : BS g) (D : RD g J) {q n : Nat} (hq : I 18 5 = nI q) (hq2 : q ≤ 100) (hn : n < 1000) : ∃ I', am_ev (am_tbl Ls xs) 87 (29, [(0, .ref 0), (1, .int (nI n)), (2, .int 0)], [], (am_sh, I, J)) = some (some (.int (gM (dyN q g n))), (am_sh, I', J)) ∧ RX (dyN q g n) I' ∧ frD I I' := by
  have B := S.1
  have b1 := bg_1 B
  obtain ⟨I1, ⟨F1, X1⟩, e1⟩ := lpe (N := n) (f := fun k I' => am_ev (am_tbl Ls xs) 87 (29, [(0, .ref 0), (1, .int (nI n)), (2, .int (nI k))], [], (am_sh, I', J))) (V := fun k I' => frD I I' ∧ RX (dyN q g k) I') (by
    intro k I1 hk ⟨F1, X1⟩
    have S1 := bs_dyN (q := q) S k
    have D1 : RD (dyN q g k) J := rd_same (g := g) (dyN_1 k).1.symm (dyN_1 k).2.symm D
    have hq1 : I1 18 5 = nI q := (F1 18 5 (by omega)).trans hq
    show ∃ I2, (frD I I2 ∧ RX (dyW q (dyN q g k)) I2) ∧ _
    generalize dyN q g k = w at X1 S1 D1
    obtain ⟨I2, e2, X2, F2⟩ := sx_drawHour (Ls := Ls) (xs := xs) (J := J) X1 S1 hq1 hq2
    have S2 := bs_hrG (q := q) S1
    have D2 : RD (hrG w q) J := rd_same (g := w) hrG_1.1.symm hrG_1.2.symm D1
    obtain ⟨I3, e3, X3, F3⟩ := sx_payAt (Ls := Ls) (xs := xs) X2 S2 D2 (o := hrW w q) (fun h hh => by rw [gN_of hrG_1.1]; exact hrW_lt hh)
    have S3 := bs_payO (o := hrW w q) S2
    obtain ⟨I4, e4, X4, F4⟩ := sx_wander (Ls := Ls) (xs := xs) (J := J) X3 S3
    rw [gP_of (payO_1.1.trans hrG_1.1)] at X4
    refine ⟨I4, ⟨frD_tr F1 (frD_tr F2 (frD_tr F3 F4)), X4⟩, ?_⟩
    try dsimp only
    rw [b_X8_day_29, if_neg (nI_ge hk (by omega)), e2, Option.bind_some, am_k_v, b_X8_day_39, e3, Option.bind_some, am_k_n, b_X8_day_42, e4, Option.bind_some, am_k_n, b_X8_day_46, i_p1]) I ⟨fun _ _ _ => rfl, X⟩
  refine ⟨I1, ?_, X1, F1⟩
  refine Eq.trans e1 ?_
  try dsimp only
  rw [b_X8_day_29, if_pos (nI_le (by omega) (by omega)), rx_M X1]
end
