/-! STOOD; COUPLE -/
def std (g : Vg) (r : Vr) (p c : Nat) : Bool := decide (gH g c = 0) && allb (fun k => decide (owN g p c (tl g p) none (tH r k) = tS r k)) (tN r)
def ctn (P : Nat → Bool) : Nat → Nat
  | 0 => 0
  | n + 1 => ctn P n + (if P n = true then 1 else 0)
theorem ctn_s {P : Nat → Bool} {n : Nat} : ctn P (n + 1) = ctn P n + (if P n = true then 1 else 0) := rfl
theorem ctn_le {P : Nat → Bool} : ∀ n, ctn P n ≤ n
  | 0 => Nat.le_refl _
  | n + 1 => by have := ctn_le (P := P) n; rw [ctn_s]; split <;> omega
theorem ctn_mono {P : Nat → Bool} {m : Nat} : ∀ n, m ≤ n → ctn P m ≤ ctn P n
  | 0, h => by rw [show m = 0 by omega]; exact Nat.le_refl _
  | n + 1, h => by
    rcases Nat.lt_or_ge n m with q | q
    · rw [show m = n + 1 by omega]; exact Nat.le_refl _
    · have := ctn_mono (P := P) n q; rw [ctn_s]; omega
def fnd (g : Vg) (P : Nat → Bool) (i : Int32) : Nat → Int32
  | 0 => -1
  | n + 1 => if P n = true ∧ nI (ctn P n) = i then nI (nam g n) else fnd g P i n
theorem fnd_s {g : Vg} {P : Nat → Bool} {i : Int32} {n : Nat} : fnd g P i (n + 1) = if P n = true ∧ nI (ctn P n) = i then nI (nam g n) else fnd g P i n := rfl
theorem fnd_some {g : Vg} {P : Nat → Bool} {i : Int32} {k : Nat} (h1 : P k = true) (h2 : nI (ctn P k) = i) : ∀ n, k < n → n < 1000 → fnd g P i n = nI (nam g k)
  | 0, h, _ => absurd h (Nat.not_lt_zero k)
  | n + 1, h, hn => by
    rw [fnd_s]
    by_cases e : n = k
    · subst e; rw [if_pos ⟨h1, h2⟩]
    · rw [if_neg, fnd_some h1 h2 n (by omega) (by omega)]
      rintro ⟨h3, h4⟩
      have h5 := ctn_mono (P := P) n (show k + 1 ≤ n by omega)
      rw [ctn_s, if_pos h1] at h5
      have h6 := ctn_le (P := P) n
      rw [← h2, nI_eq (by omega) (by omega)] at h4
      omega
theorem fnd_none {g : Vg} {P : Nat → Bool} {i : Int32} : ∀ n, (∀ k, k < n → ¬ (P k = true ∧ nI (ctn P k) = i)) → fnd g P i n = -1
  | 0, _ => rfl
  | n + 1, h => by rw [fnd_s, if_neg (h n (by omega)), fnd_none n (fun k hk => h k (by omega))]
section
variable {Ls : Nat} {xs : Nat → Int32} {g : Vg} {r : Vr} {I I' : Nat → Nat → Int32} {J : Nat → Nat → Int64}
theorem sx_may (X : RX g I) (B : BG g) (D : RD g J) (XQ : QX g r I) (Q : BQ g r) {p c : Nat} (hp : p < gP g) (hc : c < gW g * gD g) : am_ev (am_tbl Ls xs) 123 (0, [(0, .ref 63), (1, .int (nI p)), (2, .int (nI c)), (3, .ref 53)], [], (am_sh, I, J)) = some (some (.int (am_b (std g r p c))), (am_sh, I, J)) := by
  have b1 := bg_1 B
  have b3 := bg_H B (show c < 48 by omega)
  have q1 := Q.1
  simp (disch := omega) only [b_X1_mayHaveStood_0, b_X1_mayHaveStood_8, b_X1_mayHaveStood_23, Option.bind_some, am_k_v, am_k_n, ↓n_in, nI_clamp, i_p1, nI_leI, nI_ltI, nI_eq, n_lt0, n_le0, n_eq0, n_gt0, n_lm, n_em, n_me, n_mlt, false_or, or_false, true_or, or_true, false_and, and_false, true_and, and_true, not_false_eq_true, not_true_eq_false, if_true, if_false, if_pos, if_neg, am_b01, am_b0, am_b1, ne_eq, eq_self, reduceCtorEq, rng_t, Bool.and_true, Bool.and_false, Bool.true_and, Bool.false_and, ite_rgI, if_pos rfl, sx_hasCell' X B, decide_eq_false_iff_not, rx_H X]
  by_cases h0 : gH g c = 0
  · rw [if_pos h0]
    have hd : ∀ k, k < tN r → am_ev (am_tbl Ls xs) 123 (28, [(0, .ref 63), (1, .int (nI p)), (2, .int (nI c)), (3, .ref 53), (4, .int (nI k))], [], (am_sh, I, J)) = if owN g p c (tl g p) none (tH r k) = tS r k then am_ev (am_tbl Ls xs) 123 (28, [(0, .ref 63), (1, .int (nI p)), (2, .int (nI c)), (3, .ref 53), (4, .int (nI (k + 1)))], [], (am_sh, I, J)) else some (some (.int 0), (am_sh, I, J)) := by
      intro k hk
      have q2 := Q.2.2.2.1 k hk
      have e1 := (XQ.2.2.2.1 k hk).1
      have e2 := (XQ.2.2.2.1 k hk).2
      have b5 : owN g p c (tl g p) none (tH r k) ≤ 48 := owN_le
      rw [b_X1_mayHaveStood_28]
      simp (disch := omega) only [Option.bind_some, am_k_v, am_k_n, ↓n_in, nI_clamp, i_p1, nI_leI, nI_ltI, nI_eq, n_lt0, n_le0, n_eq0, n_gt0, n_lm, n_em, n_me, n_mlt, false_or, or_false, true_or, or_true, false_and, and_false, true_and, and_true, not_false_eq_true, not_true_eq_false, if_true, if_false, if_pos, if_neg, am_b01, am_b0, am_b1, ne_eq, eq_self, reduceCtorEq, rng_t, Bool.and_true, Bool.and_false, Bool.true_and, Bool.false_and, ite_rgI, if_pos rfl, XQ.1.2.2.2.2.1, b_X4_second_0_2, b_X4_second_22, b_X4_third_0_2, b_X4_third_22, e1, e2, b_X1_mayHaveStood_49, b_X1_mayHaveStood_52, b_X1_mayHaveStood_58, sx_owedAt X B D]
    rcases lpx (N := tN r) (f := fun k => am_ev (am_tbl Ls xs) 123 (28, [(0, .ref 63), (1, .int (nI p)), (2, .int (nI c)), (3, .ref 53), (4, .int (nI k))], [], (am_sh, I, J))) (fun k => ¬ owN g p c (tl g p) none (tH r k) = tS r k) (fun k hk h => by
      try dsimp only
      rw [hd k hk, if_pos (Classical.byContradiction h)]) with ⟨k, h1, h2, h3, h4⟩ | ⟨h1, h2⟩
    · refine h4.trans ?_
      try dsimp only
      rw [hd k h1, if_neg h2]
      have : std g r p c = false := by
        unfold std
        rw [show allb (fun k => decide (owN g p c (tl g p) none (tH r k) = tS r k)) (tN r) = false from ?_, Bool.and_false]
        cases hx : allb (fun k => decide (owN g p c (tl g p) none (tH r k) = tS r k)) (tN r)
        · rfl
        · exact absurd (of_decide_eq_true (allb_iff.mp hx k h1)) h2
      rw [this]; rfl
    · refine h2.trans ?_
      try dsimp only
      rw [b_X1_mayHaveStood_28]
      simp (disch := omega) only [Option.bind_some, am_k_v, am_k_n, ↓n_in, nI_clamp, i_p1, nI_leI, nI_ltI, nI_eq, n_lt0, n_le0, n_eq0, n_gt0, n_lm, n_em, n_me, n_mlt, false_or, or_false, true_or, or_true, false_and, and_false, true_and, and_true, not_false_eq_true, not_true_eq_false, if_true, if_false, if_pos, if_neg, am_b01, am_b0, am_b1, ne_eq, eq_self, reduceCtorEq, rng_t, Bool.and_true, Bool.and_false, Bool.true_and, Bool.false_and, ite_rgI, if_pos rfl, XQ.1.2.2.2.2.1]
      have : std g r p c = true := by
        unfold std
        rw [decide_eq_true h0, Bool.true_and, allb_iff]
        exact fun k hk => decide_eq_true (Classical.byContradiction (h1 k hk))
      rw [this]; rfl
  · rw [if_neg h0]
    have : std g r p c = false := by unfold std; rw [decide_eq_false h0, Bool.false_and]
    rw [this]; rfl
theorem sx_count (X : RX g I) (B : BG g) (D : RD g J) (XQ : QX g r I) (Q : BQ g r) {p : Nat} (hp : p < gP g) : am_ev (am_tbl Ls xs) 124 (0, [(0, .ref 63), (1, .int (nI p)), (2, .ref 53)], [], (am_sh, I, J)) = some (some (.int (nI (ctn (std g r p) (gW g * gD g)))), (am_sh, I, J)) := by
  have b1 := bg_1 B
  rw [b_X1_countOfStood_0]
  refine (lp (N := gW g * gD g) (f := fun k => am_ev (am_tbl Ls xs) 124 (5, [(0, .ref 63), (1, .int (nI p)), (2, .ref 53), (3, .int (nI (ctn (std g r p) k))), (4, .int (nI k))], [], (am_sh, I, J))) ?_).trans ?_
  · intro k hk
    try dsimp only
    rw [b_X1_countOfStood_5]
    simp (disch := omega) only [Option.bind_some, am_k_v, am_k_n, ↓n_in, nI_clamp, i_p1, nI_leI, nI_ltI, nI_eq, n_lt0, n_le0, n_eq0, n_gt0, n_lm, n_em, n_me, n_mlt, false_or, or_false, true_or, or_true, false_and, and_false, true_and, and_true, not_false_eq_true, not_true_eq_false, if_true, if_false, if_pos, if_neg, am_b01, am_b0, am_b1, ne_eq, eq_self, reduceCtorEq, rng_t, Bool.and_true, Bool.and_false, Bool.true_and, Bool.false_and, ite_rgI, if_pos rfl, rx_C X, sx_may X B D XQ Q hp hk, b_X1_countOfStood_25, b_X1_countOfStood_31]
    rw [ctn_s]
    cases std g r p k
    · simp
    · simp
  · try dsimp only
    rw [b_X1_countOfStood_5]
    simp (disch := omega) only [Option.bind_some, am_k_v, am_k_n, ↓n_in, nI_clamp, i_p1, nI_leI, nI_ltI, nI_eq, n_lt0, n_le0, n_eq0, n_gt0, n_lm, n_em, n_me, n_mlt, false_or, or_false, true_or, or_true, false_and, and_false, true_and, and_true, not_false_eq_true, not_true_eq_false, if_true, if_false, if_pos, if_neg, am_b01, am_b0, am_b1, ne_eq, eq_self, reduceCtorEq, rng_t, Bool.and_true, Bool.and_false, Bool.true_and, Bool.false_and, ite_rgI, if_pos rfl, rx_C X]
theorem sx_stoodAt (X : RX g I) (B : BG g) (D : RD g J) (XQ : QX g r I) (Q : BQ g r) {p : Nat} (hp : p < gP g) (i : Int32) : ∃ o : Option Nat, am_ev (am_tbl Ls xs) 125 (0, [(0, .ref 63), (1, .int (nI p)), (2, .ref 53), (3, .int i)], [], (am_sh, I, J)) = some (some (.int (oI o)), (am_sh, I, J)) ∧ (∀ c, o = some c → c < gW g * gD g) ∧ fnd g (std g r p) i (gW g * gD g) = lvI (-1) (nam g) o := by
  have b1 := bg_1 B
  rw [b_X1_stoodAt_0]
  have hd : ∀ k, k < gW g * gD g → am_ev (am_tbl Ls xs) 125 (6, [(0, .ref 63), (1, .int (nI p)), (2, .ref 53), (3, .int i), (4, .int (nI (ctn (std g r p) k))), (5, .int (nI k))], [], (am_sh, I, J)) = if std g r p k = true ∧ nI (ctn (std g r p) k) = i then some (some (.int (nI k)), (am_sh, I, J)) else am_ev (am_tbl Ls xs) 125 (6, [(0, .ref 63), (1, .int (nI p)), (2, .ref 53), (3, .int i), (4, .int (nI (ctn (std g r p) (k + 1)))), (5, .int (nI (k + 1)))], [], (am_sh, I, J)) := by
    intro k hk
    rw [b_X1_stoodAt_6]
    simp (disch := omega) only [Option.bind_some, am_k_v, am_k_n, ↓n_in, nI_clamp, i_p1, nI_leI, nI_ltI, nI_eq, n_lt0, n_le0, n_eq0, n_gt0, n_lm, n_em, n_me, n_mlt, false_or, or_false, true_or, or_true, false_and, and_false, true_and, and_true, not_false_eq_true, not_true_eq_false, if_true, if_false, if_pos, if_neg, am_b01, am_b0, am_b1, ne_eq, eq_self, reduceCtorEq, rng_t, Bool.and_true, Bool.and_false, Bool.true_and, Bool.false_and, ite_rgI, if_pos rfl, rx_C X, sx_may X B D XQ Q hp hk, b_X1_stoodAt_26, b_X1_stoodAt_41]
    rw [ctn_s]
    cases std g r p k
    · simp
    · by_cases e : nI (ctn (std g r p) k) = i
      · simp [e]
      · simp [e]
  rcases lpx (N := gW g * gD g) (f := fun k => am_ev (am_tbl Ls xs) 125 (6, [(0, .ref 63), (1, .int (nI p)), (2, .ref 53), (3, .int i), (4, .int (nI (ctn (std g r p) k))), (5, .int (nI k))], [], (am_sh, I, J))) (fun k => std g r p k = true ∧ nI (ctn (std g r p) k) = i) (fun k hk h => by
    try dsimp only
    rw [hd k hk, if_neg h]) with ⟨k, h1, h2, h3, h4⟩ | ⟨h1, h2⟩
  · refine ⟨some k, h4.trans ?_, (fun c hc => by cases hc; exact h1), fnd_some h2.1 h2.2 _ h1 (by omega)⟩
    try dsimp only
    rw [hd k h1, if_pos h2]
    rfl
  · refine ⟨none, h2.trans ?_, (fun c hc => by cases hc), fnd_none _ h1⟩
    try dsimp only
    rw [b_X1_stoodAt_6]
    simp (disch := omega) only [Option.bind_some, am_k_v, am_k_n, ↓n_in, nI_clamp, i_p1, nI_leI, nI_ltI, nI_eq, n_lt0, n_le0, n_eq0, n_gt0, n_lm, n_em, n_me, n_mlt, false_or, or_false, true_or, or_true, false_and, and_false, true_and, and_true, not_false_eq_true, not_true_eq_false, if_true, if_false, if_pos, if_neg, am_b01, am_b0, am_b1, ne_eq, eq_self, reduceCtorEq, rng_t, Bool.and_true, Bool.and_false, Bool.true_and, Bool.false_and, ite_rgI, if_pos rfl, rx_C X]
    rfl
/-- the reference, where p stands on c -/
theorem sp_asTold (M : RM g I) (B : BG g) (C : m0 I) (MQ : QM g r I) (Q : BQ g r) {p : Nat} (hp : p < gP g) : am_ev (am_tbl Ls xs) 67 (0, [(0, .ref 81), (1, .int (nI p))], [], (am_sh, I, J)) = some (some (.int (am_b (allb (fun k => decide (owN g p (gA g p) (tl g p) none (tH r k) = tS r k)) (tN r)))), (am_sh, I, J)) := by
  have b1 := bg_1 B
  have q1 := Q.1
  rw [b_X9_isAsTold_0]
  generalize hf : (fun k => decide (owN g p (gA g p) (tl g p) none (tH r k) = tS r k)) = f
  have hd : ∀ k, k < tN r → f k = decide (owN g p (gA g p) (tl g p) none (tH r k) = tS r k) := fun k _ => by rw [← hf]
  rcases lpx (N := tN r) (f := fun k => am_ev (am_tbl Ls xs) 67 (4, [(0, .ref 81), (1, .int (nI p)), (2, .int (am_b (allb f k))), (3, .int (nI k))], [], (am_sh, I, J))) (fun k => allb f k = false) (fun k hk h => by
    have q2 := Q.2.2.2.1 k hk
    have e1 := (MQ.2.2.2.1 k hk).1
    have e2 := (MQ.2.2.2.1 k hk).2
    have b5 : owN g p (gA g p) (tl g p) none (tH r k) ≤ 48 := owN_le
    have h : allb f k = true := by cases hx : allb f k; exact absurd hx h; rfl
    try dsimp only
    rw [b_X9_isAsTold_4]
    simp (disch := omega) only [Option.bind_some, am_k_v, am_k_n, ↓n_in, nI_clamp, i_p1, nI_leI, nI_ltI, nI_eq, n_lt0, n_le0, n_eq0, n_gt0, n_lm, n_em, n_me, n_mlt, false_or, or_false, true_or, or_true, false_and, and_false, true_and, and_true, not_false_eq_true, not_true_eq_false, if_true, if_false, if_pos, if_neg, am_b01, am_b0, am_b1, ne_eq, eq_self, reduceCtorEq, rng_t, Bool.and_true, Bool.and_false, Bool.true_and, Bool.false_and, ite_rgI, if_pos rfl, MQ.1.2.2.2.2.1, h, e1, e2, sp_owed0 M B C, b_X9_isAsTold_27, b_X9_isAsTold_41, allb_s, hd k hk]
    by_cases e : owN g p (gA g p) (tl g p) none (tH r k) = tS r k
    · rw [if_neg (by intro q; exact q e), decide_eq_true e]; rfl
    · rw [if_pos e, decide_eq_false e]; rfl) with ⟨k, h1, h2, h3, h4⟩ | ⟨h1, h2⟩
  · have ha : ∀ n, allb f (k + n) = false := fun n => by
      induction n with
      | zero => exact h2
      | succ n ih => rw [← Nat.add_assoc, allb_s, ih, Bool.false_and]
    have := ha (tN r - k)
    rw [show k + (tN r - k) = tN r by omega] at this
    refine h4.trans ?_
    try dsimp only
    rw [b_X9_isAsTold_4]
    simp (disch := omega) only [Option.bind_some, am_k_v, am_k_n, ↓n_in, nI_clamp, i_p1, nI_leI, nI_ltI, nI_eq, n_lt0, n_le0, n_eq0, n_gt0, n_lm, n_em, n_me, n_mlt, false_or, or_false, true_or, or_true, false_and, and_false, true_and, and_true, not_false_eq_true, not_true_eq_false, if_true, if_false, if_pos, if_neg, am_b01, am_b0, am_b1, ne_eq, eq_self, reduceCtorEq, rng_t, Bool.and_true, Bool.and_false, Bool.true_and, Bool.false_and, ite_rgI, if_pos rfl, bft, MQ.1.2.2.2.2.1, h2, b_X9_isAsTold_48, this]
  · refine h2.trans ?_
    try dsimp only
    rw [b_X9_isAsTold_4]
    simp (disch := omega) only [Option.bind_some, am_k_v, am_k_n, ↓n_in, nI_clamp, i_p1, nI_leI, nI_ltI, nI_eq, n_lt0, n_le0, n_eq0, n_gt0, n_lm, n_em, n_me, n_mlt, false_or, or_false, true_or, or_true, false_and, and_false, true_and, and_true, not_false_eq_true, not_true_eq_false, if_true, if_false, if_pos, if_neg, am_b01, am_b0, am_b1, ne_eq, eq_self, reduceCtorEq, rng_t, Bool.and_true, Bool.and_false, Bool.true_and, Bool.false_and, ite_rgI, if_pos rfl, bft, MQ.1.2.2.2.2.1, b_X9_isAsTold_48]
theorem bg_A {p c : Nat} (B : BG g) (hc : c < gW g * gD g) : BG (setA g (fset (gA g) p c)) := by
  refine ⟨B.1, B.2.1, fun q hq => ?_, B.2.2.2⟩
  have := B.2.2.1 q hq
  refine ⟨this.1, this.2.1, this.2.2.1, ?_⟩
  show fset (gA g) p c q < gW g * gD g
  by_cases e : q = p
  · rw [e, fset_eq]; exact hc
  · rw [fset_ne e]; exact this.2.2.2
theorem sp_stoodL (M : RM g I) (B : BG g) (C : m0 I) (MQ : QM g r I) (Q : BQ g r) {p : Nat} (hp : p < gP g) (i : Int32) : am_ev (am_tbl Ls xs) 68 (28, [(0, .ref 81), (1, .int (nI p)), (2, .int i), (3, .int (I 87 p)), (4, .int 0), (5, .int ((-1))), (6, .int 0)], [], (am_sh, I, J)) = some (some (.int (if i = -1 then nI (ctn (std g r p) (gW g * gD g)) else fnd g (std g r p) i (gW g * gD g))), (am_sh, I, J)) := by
  have b1 := bg_1 B
  have b2 := bg_p B hp
  refine Eq.trans ?_ ((lp (N := gW g * gD g) (f := fun k => am_ev (am_tbl Ls xs) 68 (28, [(0, .ref 81), (1, .int (nI p)), (2, .int i), (3, .int (I 87 p)), (4, .int (nI (ctn (std g r p) k))), (5, .int (fnd g (std g r p) i k)), (6, .int (nI k))], [], (am_sh, am_up2 I 87 p (lastf (fun _ => true) (I 87 p) k), J))) ?_).trans ?_)
  · show _ = am_ev (am_tbl Ls xs) 68 (28, [(0, .ref 81), (1, .int (nI p)), (2, .int i), (3, .int (I 87 p)), (4, .int 0), (5, .int ((-1))), (6, .int 0)], [], (am_sh, am_up2 I 87 p (I 87 p), J))
    rw [up_self]
  · intro k hk
    have b3 := bg_H B (show k < 48 by omega)
    have Mk := rm_setA (c := k) M hp
    have Bk := bg_A (p := p) B hk
    have Ck : m0 (am_up2 I 87 p (nI k)) := m0_up (by unfold m4; omega) C
    have Qk : QM (setA g (fset (gA g) p k)) r (am_up2 I 87 p (nI k)) := qm_up (by unfold mQ; omega) MQ
    have ht := sp_asTold (Ls := Ls) (xs := xs) (J := J) Mk Bk Ck Qk Q (show p < gP (setA g (fset (gA g) p k)) from hp)
    have hnm := sp_told10 (Ls := Ls) (xs := xs) (J := J) Mk Bk (show k < gW (setA g (fset (gA g) p k)) * gD (setA g (fset (gA g) p k)) from hk)
    have eS : std g r p k = (decide (gH g k = 0) && allb (fun j => decide (owN (setA g (fset (gA g) p k)) p (gA (setA g (fset (gA g) p k)) p) (tl (setA g (fset (gA g) p k)) p) none (tH r j) = tS r j)) (tN r)) := by
      unfold std
      rw [show gA (setA g (fset (gA g) p k)) p = k from fset_eq]
      simp only [owN_A]
      rfl
    try dsimp only
    rw [b_X9_stood_28, sp_cells]
    simp (disch := omega) only [b_X9_stood_34, Option.bind_some, am_k_v, am_k_n, ↓n_in, nI_clamp, i_p1, nI_leI, nI_ltI, nI_eq, n_lt0, n_le0, n_eq0, n_gt0, n_lm, n_em, n_me, n_mlt, false_or, or_false, true_or, or_true, false_and, and_false, true_and, and_true, not_false_eq_true, not_true_eq_false, if_true, if_false, if_pos, if_neg, am_b01, am_b0, am_b1, ne_eq, eq_self, reduceCtorEq, rng_t, Bool.and_true, Bool.and_false, Bool.true_and, Bool.false_and, ite_rgI, if_pos rfl, up_ne, rm_W M, rm_D M, pk_mul, rm_H M, up_up, lastf_s]
    rw [ht, Option.bind_some, am_k_v, b_X9_stood_60, b_X9_stood_85, hnm, Option.bind_some, am_k_v, b_X9_stood_75, b_X9_stood_80, b_X9_stood_85, b_X9_stood_80, b_X9_stood_85, ctn_s, fnd_s, eS]
    generalize allb (fun j => decide (owN (setA g (fset (gA g) p k)) p (gA (setA g (fset (gA g) p k)) p) (tl (setA g (fset (gA g) p k)) p) none (tH r j) = tS r j)) (tN r) = b
    by_cases h0 : gH g k = 0
    · rw [if_neg (by omega), decide_eq_true h0, Bool.true_and]
      cases b
      · simp [am_b, nI_1]
      · by_cases e : nI (ctn (std g r p) k) = i
        · subst e
          simp [am_b, nI_1]
          rfl
        · simp [am_b, nI_1, e]
    · rw [if_pos (by omega), decide_eq_false h0, Bool.false_and]
      simp [nI_1]
  · try dsimp only
    rw [b_X9_stood_28, sp_cells]
    simp (disch := omega) only [b_X9_stood_34, Option.bind_some, am_k_v, am_k_n, ↓n_in, nI_clamp, i_p1, nI_leI, nI_ltI, nI_eq, n_lt0, n_le0, n_eq0, n_gt0, n_lm, n_em, n_me, n_mlt, false_or, or_false, true_or, or_true, false_and, and_false, true_and, and_true, not_false_eq_true, not_true_eq_false, if_true, if_false, if_pos, if_neg, am_b01, am_b0, am_b1, ne_eq, eq_self, reduceCtorEq, rng_t, Bool.and_true, Bool.and_false, Bool.true_and, Bool.false_and, ite_rgI, if_pos rfl, up_ne, rm_W M, rm_D M, pk_mul, up_up, up_self, b_X9_stood_110]
    by_cases e : i = -1
    · simp [e]
    · simp [e]
theorem pu_stood (H : Inv I J) (p i : Int32) : StpC Ls xs 97 68 [(0, .ref 0), (1, .int p), (2, .int i)] [(0, .ref 81), (1, .int p), (2, .int i)] I J := by
  obtain ⟨g, r, S, Q, ⟨X, XQ, D⟩, ⟨M, MQ, C⟩⟩ := id H
  have B := S.1
  have b1 := bg_1 B
  rcases rng_or (gP g) (by omega) p with ⟨p, hp, rfl⟩ | hp
  · refine stp_pure H (v := if i = -1 then nI (ctn (std g r p) (gW g * gD g)) else fnd g (std g r p) i (gW g * gD g)) ?_ ?_
    · simp (disch := omega) only [b_X8_stood_0, b_X8_stood_8, Option.bind_some, am_k_v, am_k_n, ↓n_in, nI_clamp, i_p1, nI_leI, nI_ltI, nI_eq, n_lt0, n_le0, n_eq0, n_gt0, n_lm, n_em, n_me, n_mlt, false_or, or_false, true_or, or_true, false_and, and_false, true_and, and_true, not_false_eq_true, not_true_eq_false, if_true, if_false, if_pos, if_neg, am_b01, am_b0, am_b1, ne_eq, eq_self, reduceCtorEq, rng_t, Bool.and_true, Bool.and_false, Bool.true_and, Bool.false_and, ite_rgI, if_pos rfl, sx_personA X]
      by_cases e : i = -1
      · simp only [e, not_true_eq_false, if_false, if_true]
        rw [sx_count X B D XQ Q hp, Option.bind_some, am_k_v, b_X8_stood_31, b_X8_stood_54_2]
      · simp only [e, not_false_eq_true, if_true, if_false]
        obtain ⟨o, h1, h2, h3⟩ := sx_stoodAt (Ls := Ls) (xs := xs) X B D XQ Q hp i
        rw [h1, h3, Option.bind_some, am_k_v, b_X8_stood_51]
        cases o with
        | none => rw [show oI none = -1 from rfl, sx_nameOf1 X, Option.bind_some, am_k_v, b_X8_stood_54]; rfl
        | some c => rw [show oI (some c) = nI c from rfl, sx_nameOf X B (h2 c rfl), Option.bind_some, am_k_v, b_X8_stood_54]; rfl
    · simp (disch := omega) only [b_X9_stood_0, b_X9_stood_5, Option.bind_some, am_k_v, am_k_n, ↓n_in, nI_clamp, i_p1, nI_leI, nI_ltI, nI_eq, n_lt0, n_le0, n_eq0, n_gt0, n_lm, n_em, n_me, n_mlt, false_or, or_false, true_or, or_true, false_and, and_false, true_and, and_true, not_false_eq_true, not_true_eq_false, if_true, if_false, if_pos, if_neg, am_b01, am_b0, am_b1, ne_eq, eq_self, reduceCtorEq, rng_t, Bool.and_true, Bool.and_false, Bool.true_and, Bool.false_and, ite_rgI, if_pos rfl, sp_personA M B]
      exact sp_stoodL M B C MQ Q hp i
  · refine stp_pure H (v := -1000000001) ?_ ?_
    · simp (disch := omega) only [b_X8_stood_0, b_X8_stood_8, Option.bind_some, am_k_v, am_k_n, ↓n_in, nI_clamp, i_p1, nI_leI, nI_ltI, nI_eq, n_lt0, n_le0, n_eq0, n_gt0, n_lm, n_em, n_me, n_mlt, false_or, or_false, true_or, or_true, false_and, and_false, true_and, and_true, not_false_eq_true, not_true_eq_false, if_true, if_false, if_pos, if_neg, am_b01, am_b0, am_b1, ne_eq, eq_self, reduceCtorEq, rng_t, Bool.and_true, Bool.and_false, Bool.true_and, Bool.false_and, ite_rgI, if_pos rfl, sx_personA X, hp]
    · simp (disch := omega) only [b_X9_stood_0, b_X9_stood_5, Option.bind_some, am_k_v, am_k_n, ↓n_in, nI_clamp, i_p1, nI_leI, nI_ltI, nI_eq, n_lt0, n_le0, n_eq0, n_gt0, n_lm, n_em, n_me, n_mlt, false_or, or_false, true_or, or_true, false_and, and_false, true_and, and_true, not_false_eq_true, not_true_eq_false, if_true, if_false, if_pos, if_neg, am_b01, am_b0, am_b1, ne_eq, eq_self, reduceCtorEq, rng_t, Bool.and_true, Bool.and_false, Bool.true_and, Bool.false_and, ite_rgI, if_pos rfl, sp_personA M B, hp]
end
