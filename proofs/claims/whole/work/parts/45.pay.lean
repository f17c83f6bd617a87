/-! who owes a cell: both sides the same -/
theorem ahd_irr {r a b p q : Nat} (h : ahd r a b p q = true) (h2 : ahd r b a q p = true) : False := by
  unfold ahd at h h2
  split at h <;> split at h2 <;> simp only [decide_eq_true_eq] at h h2 <;> omega
theorem ahd_tot {r a b p q : Nat} (hn : p ≠ q) (h : ¬ ahd r a b p q = true) : ahd r b a q p = true := by
  unfold ahd at h ⊢
  split at h <;> split <;> simp only [decide_eq_true_eq] at h ⊢ <;> omega
theorem ahd_tr {r a b c p q s : Nat} (h : ahd r a b p q = true) (h2 : ahd r b c q s = true) : ahd r a c p s = true := by
  unfold ahd at h h2 ⊢
  split at h <;> split at h2 <;> split <;> simp only [decide_eq_true_eq] at h h2 ⊢ <;> omega
def cst (g : Vg) (c h p : Nat) : Bool := hbt (shd g (dk g h) (gA g p) (tl g p) h) c
def pyl (g : Vg) (c h : Nat) : Nat → Option Nat
  | 0 => none
  | n + 1 => if cst g c h n = true then (match pyl g c h n with
    | none => some n
    | some i => if ahd (gR g) (tl g n) (tl g i) n i = true then some n else some i) else pyl g c h n
theorem pyl_s {g : Vg} {c h n : Nat} : pyl g c h (n + 1) = if cst g c h n = true then (match pyl g c h n with
    | none => some n
    | some i => if ahd (gR g) (tl g n) (tl g i) n i = true then some n else some i) else pyl g c h n := rfl
theorem pyl_spec {g : Vg} {c h : Nat} : ∀ n, (pyl g c h n = none ∧ ∀ q, q < n → cst g c h q = false) ∨ (∃ i, pyl g c h n = some i ∧ i < n ∧ cst g c h i = true ∧ ∀ q, q < n → cst g c h q = true → q ≠ i → ahd (gR g) (tl g i) (tl g q) i q = true) := by
  intro n
  induction n with
  | zero => exact Or.inl ⟨rfl, fun q hq => absurd hq (Nat.not_lt_zero q)⟩
  | succ n ih =>
    rw [pyl_s]
    cases hc : cst g c h n
    · rw [if_neg (by decide)]
      rcases ih with ⟨h1, h2⟩ | ⟨i, h1, h2, h3, h4⟩
      · refine Or.inl ⟨h1, fun q hq => ?_⟩
        rcases Nat.lt_or_ge q n with w | w
        · exact h2 q w
        · rw [show q = n by omega]; exact hc
      · refine Or.inr ⟨i, h1, by omega, h3, fun q hq hcq hne => ?_⟩
        rcases Nat.lt_or_ge q n with w | w
        · exact h4 q w hcq hne
        · rw [show q = n by omega, hc] at hcq; cases hcq
    · rw [if_pos rfl]
      rcases ih with ⟨h1, h2⟩ | ⟨i, h1, h2, h3, h4⟩
      · rw [h1]
        refine Or.inr ⟨n, rfl, by omega, hc, fun q hq hcq hne => ?_⟩
        rw [h2 q (by omega)] at hcq; cases hcq
      · rw [h1]
        try dsimp only
        by_cases ha : ahd (gR g) (tl g n) (tl g i) n i = true
        · rw [if_pos ha]
          refine Or.inr ⟨n, rfl, by omega, hc, fun q hq hcq hne => ?_⟩
          by_cases hqi : q = i
          · rw [hqi]; exact ha
          · exact ahd_tr ha (h4 q (by omega) hcq hqi)
        · rw [if_neg ha]
          refine Or.inr ⟨i, rfl, by omega, h3, fun q hq hcq hne => ?_⟩
          rcases Nat.lt_or_ge q n with w | w
          · exact h4 q w hcq hne
          · rw [show q = n by omega]; exact ahd_tot (by omega) ha
theorem owL_bit {g : Vg} {d : Int64} {p t h c : Nat} {s : Int64} (hc : c < 64) : ∀ n, hbt (owL g d p t none h s n) c = true ↔ hbt s c = true ∧ ∀ q, q < n → q ≠ p → ahd (gR g) (tl g q) t q p = true → hbt (shd g d (gA g q) (tl g q) h) c = false := by
  intro n
  induction n with
  | zero => exact ⟨fun q => ⟨q, fun q hq => absurd hq (Nat.not_lt_zero q)⟩, fun q => q.1⟩
  | succ n ih =>
    rw [show owL g d p t none h s (n + 1) = owS g d p t none h n (owL g d p t none h s n) from rfl]
    unfold owS
    by_cases h1 : (n ≠ p ∧ none ≠ some n) ∧ ahd (gR g) (tl g n) t n p = true
    · rw [if_pos h1, hb_an, hb_not _ hc, Bool.and_eq_true_iff, ih]
      constructor
      · rintro ⟨⟨a, b⟩, e⟩
        refine ⟨a, fun q hq hqp hqa => ?_⟩
        rcases Nat.lt_or_ge q n with w | w
        · exact b q w hqp hqa
        · rw [show q = n by omega]; simpa using e
      · rintro ⟨a, b⟩
        exact ⟨⟨a, fun q hq => b q (by omega)⟩, by simpa using b n (by omega) h1.1.1 h1.2⟩
    · rw [if_neg h1, ih]
      constructor
      · rintro ⟨a, b⟩
        refine ⟨a, fun q hq hqp hqa => ?_⟩
        rcases Nat.lt_or_ge q n with w | w
        · exact b q w hqp hqa
        · rw [show q = n by omega] at hqp hqa
          exact absurd ⟨⟨hqp, fun z => by cases z⟩, hqa⟩ h1
      · rintro ⟨a, b⟩
        exact ⟨a, fun q hq => b q (by omega)⟩
theorem owC_bit {g : Vg} {p h c : Nat} (hc : c < 64) : hbt (owC g p (gA g p) (tl g p) none h) c = true ↔ (cst g c h p = true ∧ hbt (dk g h) c = false) ∧ ∀ q, q < gP g → q ≠ p → ahd (gR g) (tl g q) (tl g p) q p = true → cst g c h q = false := by
  unfold owC
  rw [owL_bit hc, hb_an, hb_not _ hc, Bool.and_eq_true_iff]
  unfold cst
  simp
/-- who owes a cell -/
def pyN (g : Vg) (c h : Nat) : Option Nat := if hbt (dk g h) c = true then none else pyl g c h (gP g)
theorem pyN_some {g : Vg} {p h c : Nat} (hc : c < 64) (hp : p < gP g) (hb : hbt (owC g p (gA g p) (tl g p) none h) c = true) : pyN g c h = some p := by
  obtain ⟨⟨h1, h2⟩, h3⟩ := (owC_bit hc).mp hb
  unfold pyN
  rw [h2, if_neg (by decide)]
  rcases pyl_spec (g := g) (c := c) (h := h) (gP g) with ⟨a, b⟩ | ⟨i, a, b, e, f⟩
  · rw [b p hp] at h1; cases h1
  · by_cases hi : p = i
    · rw [a, hi]
    · have := h3 i b (fun q => hi q.symm) (f p hp h1 hi)
      rw [this] at e; cases e
theorem pyN_none {g : Vg} {h c : Nat} (hc : c < 64) (hb : ∀ p, p < gP g → hbt (owC g p (gA g p) (tl g p) none h) c = false) : pyN g c h = none := by
  unfold pyN
  cases hd : hbt (dk g h) c
  · rw [if_neg (by decide)]
    rcases pyl_spec (g := g) (c := c) (h := h) (gP g) with ⟨a, b⟩ | ⟨i, a, b, e, f⟩
    · exact a
    · have h1 := hb i b
      have h2 : hbt (owC g i (gA g i) (tl g i) none h) c = true := (owC_bit hc).mpr ⟨⟨e, hd⟩, fun q hq hqi hqa => by
        cases hx : cst g c h q
        · rfl
        · exact (ahd_irr hqa (f q hq hx hqi)).elim⟩
      rw [h1] at h2; cases h2
  · rw [if_pos rfl]
theorem csn_bit {g : Vg} {c h p : Nat} : ∀ n, (csn g c h n).testBit p = (decide (p < n) && cst g c h p) := by
  intro n
  induction n with
  | zero => unfold csn; simp
  | succ n ih =>
    rw [csn_s]
    by_cases h1 : hbt (shd g (dk g h) (gA g n) (tl g n) h) c = true
    · rw [if_pos h1, Nat.testBit_or, ih, Nat.testBit_two_pow]
      by_cases h2 : p = n
      · subst h2; simp [cst, h1]
      · simp [show ¬ n = p by omega, show (p < n + 1) = (p < n) by simp; omega]
    · rw [if_neg h1, ih]
      by_cases h2 : p = n
      · subst h2; simp [cst, h1]
      · simp [show (p < n + 1) = (p < n) by simp; omega]
section
variable {Ls : Nat} {xs : Nat → Int32} {g : Vg} {I : Nat → Nat → Int32} {J : Nat → Nat → Int64}
theorem sx_owerN (R : RX g I) (B : BG g) (D : RD g J) {c h : Nat} (hc : c < gW g * gD g) (hh : h < gN g) : am_ev (am_tbl Ls xs) 173 (0, [(0, .ref 61), (1, .int (nI c)), (2, .int (nI h))], [], (am_sh, I, J)) = some (some (.int (oI (pyN g c h))), (am_sh, I, J)) := by
  have b1 := bg_1 B
  rcases sx_ower (Ls := Ls) (xs := xs) R B D hc hh with ⟨p, h1, h2, h3⟩ | ⟨h1, h2⟩
  · rw [pyN_some (by omega) h1 h2]; exact h3
  · rw [pyN_none (by omega) h1]; exact h2
theorem sp_payer (R : RM g I) (B : BG g) (C : m0 I) {c h : Nat} (hc : c < gW g * gD g) (hh : h < gN g) : am_ev (am_tbl Ls xs) 38 (0, [(0, .ref 81), (1, .int (nI c)), (2, .int (nI h))], [], (am_sh, I, J)) = some (some (.int (oI (pyN g c h))), (am_sh, I, J)) := by
  have b1 := bg_1 B
  have b2 : csn g c h (gP g) < 64 := Nat.lt_of_lt_of_le (csn_lt c h (gP g)) (show 2 ^ gP g ≤ 2 ^ 6 from Nat.pow_le_pow_right (by decide) (by omega))
  simp (disch := omega) only [b_X9_payerAt_0, b_X9_payerAt_6, Option.bind_some, am_k_v, am_k_n, ↓n_in, nI_clamp, i_p1, nI_leI, nI_ltI, nI_eq, n_lt0, n_le0, n_eq0, n_gt0, n_lm, n_em, n_me, n_mlt, false_or, or_false, true_or, or_true, false_and, and_false, true_and, and_true, not_false_eq_true, not_true_eq_false, if_true, if_false, if_pos, if_neg, am_b01, am_b0, am_b1, ne_eq, sp_casters R B C]
  refine (lp (N := gP g) (f := fun k => am_ev (am_tbl Ls xs) 38 (13, [(0, .ref 81), (1, .int (nI c)), (2, .int (nI h)), (3, .int (nI (csn g c h (gP g)))), (4, .int (oI (pyl g c h k))), (5, .int (nI k))], [], (am_sh, I, J))) ?_).trans ?_
  · intro k hk
    try dsimp only
    rw [b_X9_payerAt_13]
    have e : hbt (lN (csn g c h (gP g))) k = cst g c h k := by
      show (BitVec.ofNat 64 (csn g c h (gP g))).getLsbD k = _
      rw [BitVec.getLsbD_ofNat, csn_bit]
      simp [hk, show k < 64 by omega]
    simp (disch := omega) only [b_X9_payerAt_29, b_X9_payerAt_53, b_X9_payerAt_48, b_X9_payerAt_55, Option.bind_some, am_k_v, am_k_n, ↓n_in, nI_clamp, i_p1, nI_leI, nI_ltI, nI_eq, n_lt0, n_le0, n_eq0, n_gt0, n_lm, n_em, n_me, n_mlt, false_or, or_false, true_or, or_true, false_and, and_false, true_and, and_true, not_false_eq_true, not_true_eq_false, if_true, if_false, if_pos, if_neg, am_b01, am_b0, am_b1, ne_eq, rm_P R, nI_l, sp_has, hb_has, e]
    rw [pyl_s]
    cases hk2 : cst g c h k
    · rw [if_pos rfl, if_neg (by decide)]
    · rw [if_neg (by decide), if_pos rfl]
      rcases pyl_spec (g := g) (c := c) (h := h) k with ⟨a, b⟩ | ⟨i, a, b, e2, f⟩
      · rw [a]
        simp (disch := omega) only [oI, Option.bind_some, am_k_v, am_k_n, ↓n_in, nI_clamp, i_p1, nI_leI, nI_ltI, nI_eq, n_lt0, n_le0, n_eq0, n_gt0, n_lm, n_em, n_me, n_mlt, false_or, or_false, true_or, or_true, false_and, and_false, true_and, and_true, not_false_eq_true, not_true_eq_false, if_true, if_false, if_pos, if_neg, am_b01, am_b0, am_b1, ne_eq, show ((-1 : Int32) < 0) = True from by decide]
      · rw [a]
        simp (disch := omega) only [oI, Option.bind_some, am_k_v, am_k_n, ↓n_in, nI_clamp, i_p1, nI_leI, nI_ltI, nI_eq, n_lt0, n_le0, n_eq0, n_gt0, n_lm, n_em, n_me, n_mlt, false_or, or_false, true_or, or_true, false_and, and_false, true_and, and_true, not_false_eq_true, not_true_eq_false, if_true, if_false, if_pos, if_neg, am_b01, am_b0, am_b1, ne_eq, sp_aheadN R B (mC_0 C) (fun y q => by cases q) (Nat.zero_le 9), tlc_0, b_X9_payerAt_45, b_X9_payerAt_48, b_X9_payerAt_53, b_X9_payerAt_55]
        by_cases h3 : ahd (gR g) (tl g k) (tl g i) k i = true
        · rw [if_neg (by rw [h3]; decide), if_pos h3]
        · rw [if_pos (by cases hx : ahd (gR g) (tl g k) (tl g i) k i; rfl; exact absurd hx h3), if_neg h3]
  · try dsimp only
    rw [b_X9_payerAt_13]
    simp (disch := omega) only [b_X9_payerAt_0, b_X9_payerAt_6, b_X9_payerAt_68, b_X9_payerAt_29, b_X9_payerAt_72, b_X9_payerAt_53, b_X9_payerAt_48, b_X9_payerAt_45, b_X9_payerAt_81, b_X9_payerAt_55, Option.bind_some, am_k_v, am_k_n, ↓n_in, nI_clamp, i_p1, nI_leI, nI_ltI, nI_eq, n_lt0, n_le0, n_eq0, n_gt0, n_lm, n_em, n_me, n_mlt, false_or, or_false, true_or, or_true, false_and, and_false, true_and, and_true, not_false_eq_true, not_true_eq_false, if_true, if_false, if_pos, if_neg, am_b01, am_b0, am_b1, ne_eq, rm_P R, sp_dk R B, sp_has, hb_has]
    unfold pyN
    cases hbt (dk g h) c
    · rw [if_pos rfl, if_neg (by decide)]
    · rw [if_neg (by decide), if_pos rfl]; rfl
end
