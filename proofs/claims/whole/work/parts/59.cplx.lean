/-! COUPLES: the class -/
theorem lpe {α β : Type} {f : Nat → β → α} {V : Nat → β → Prop} {N : Nat} (hs : ∀ k b, k < N → V k b → ∃ b', V (k + 1) b' ∧ f k b = f (k + 1) b') : ∀ b, V 0 b → ∃ b', V N b' ∧ f 0 b = f N b' := by
  induction N with
  | zero => intro b h; exact ⟨b, h, rfl⟩
  | succ n ih =>
    intro b h
    obtain ⟨b1, h1, h2⟩ := ih (fun k b hk => hs k b (by omega)) b h
    obtain ⟨b2, h3, h4⟩ := hs n b1 (by omega) h1
    exact ⟨b2, h3, h2.trans h4⟩
theorem s_rm : ∀ S, S < 64 → ∀ p, p < 6 → nI S &&& (nI (2 ^ p) ^^^ (-1)) = nI (rmv S p) := by decide +kernel
theorem s_bit : ∀ S, S < 64 → ∀ p, p < 6 → ((nI S >>> (nI p &&& 31)) &&& 1) = nI (if S.testBit p = true then 1 else 0) := by decide +kernel
theorem s_rmlt : ∀ S, S < 64 → ∀ p, p < 6 → rmv S p < 64 := by decide +kernel
theorem s_full : ∀ P, P ≤ 6 → ((1 : Int32) <<< (nI P &&& 31)) = nI (2 ^ P) := by decide +kernel
theorem p64 {P : Nat} (hP : P ≤ 6) : 2 ^ P ≤ 64 := Nat.pow_le_pow_right (n := 2) (by decide) hP
theorem oi_le {a b : Int} (ha : -2147483648 ≤ a ∧ a < 2147483648) (hb : -2147483648 ≤ b ∧ b < 2147483648) : Int32.ofInt a ≤ Int32.ofInt b ↔ a ≤ b := by
  have e : ∀ z : Int, -2147483648 ≤ z ∧ z < 2147483648 → (Int32.ofInt z).toInt = z := fun z h => by
    rw [Int32.toInt_ofInt]
    exact Int.bmod_eq_of_le (m := 4294967296) (by omega) (by omega)
  rw [i_leN, e a ha, e b hb]
theorem n_guard {α : Type} {c N : Nat} {A B : α} (h : c < N ∧ N < 2147483648) : (if ¬ (nI c < 0 ∨ N ≤ c) then A else B) = A := if_pos (by
  intro q
  rcases q with q | q
  · exact nI_pos (show c < 2 ^ 31 by omega) q
  · omega)
/-- worths and what sets are worth, in the rows -/
def WX (g : Vg) (I : Nat → Nat → Int32) : Prop := ∀ p q, p < q → q < gP g → I (74 + p) q = Int32.ofInt (cpW g p q)
section
variable {Ls : Nat} {xs : Nat → Int32} {g : Vg} {r : Vr} {I I' : Nat → Nat → Int32} {J : Nat → Nat → Int64}
theorem sx_low (R : RX g I) (B : BG g) {S : Nat} (h0 : S ≠ 0) (hS : S < 2 ^ gP g) : am_ev (am_tbl Ls xs) 113 (0, [(0, .ref 72), (1, .int (nI S))], [], (am_sh, I, J)) = some (some (.int (nI (loB S (gP g)))), (am_sh, I, J)) := by
  have b1 := bg_1 B
  have h64 := p64 (show gP g ≤ 6 by omega)
  obtain ⟨p1, p2⟩ := loB_zero hS h0
  have p3 := (loB_spec S (gP g)).2.1
  rw [b_X0_lowestOf_0]
  refine (lp (N := loB S (gP g)) (f := fun k => am_ev (am_tbl Ls xs) 113 (2, [(0, .ref 72), (1, .int (nI S)), (2, .int (nI k))], [], (am_sh, I, J))) ?_).trans ?_
  · intro k hk
    try dsimp only
    rw [b_X0_lowestOf_2, s_bit S (by omega) k (by omega), p3 k hk]
    simp (disch := omega) only [Option.bind_some, am_k_v, am_k_n, ↓n_in, nI_clamp, i_p1, nI_leI, nI_ltI, nI_eq, n_lt0, n_le0, n_eq0, n_gt0, n_lm, n_em, n_me, n_mlt, false_or, or_false, true_or, or_true, false_and, and_false, true_and, and_true, not_false_eq_true, not_true_eq_false, if_true, if_false, if_pos, if_neg, am_b01, am_b0, am_b1, ne_eq, eq_self, reduceCtorEq, rng_t, Bool.and_true, Bool.and_false, Bool.true_and, Bool.false_and, ite_rgI, if_pos rfl, rx_P R]
    try rfl
  · try dsimp only
    rw [b_X0_lowestOf_2, s_bit S (by omega) _ (by omega), p2]
    simp (disch := omega) only [Option.bind_some, am_k_v, am_k_n, ↓n_in, nI_clamp, i_p1, nI_leI, nI_ltI, nI_eq, n_lt0, n_le0, n_eq0, n_gt0, n_lm, n_em, n_me, n_mlt, false_or, or_false, true_or, or_true, false_and, and_false, true_and, and_true, not_false_eq_true, not_true_eq_false, if_true, if_false, if_pos, if_neg, am_b01, am_b0, am_b1, ne_eq, eq_self, reduceCtorEq, rng_t, Bool.and_true, Bool.and_false, Bool.true_and, Bool.false_and, ite_rgI, if_pos rfl, rx_P R]
    try rfl
theorem sx_sum (R : RX g I) (B : BG g) (W : WX g I) {gv : Nat → Int} {S p : Nat} {o : Option Nat} (hS : S < 2 ^ gP g) (hp : S.testBit p = true) (hG : ∀ T, T < S → I 80 T = Int32.ofInt (gv T)) (ho : ∀ q, o = some q → p < q ∧ q < gP g ∧ S.testBit q = true) : am_ev (am_tbl Ls xs) 114 (0, [(0, .ref 72), (1, .int (nI S)), (2, .int (nI p)), (3, .int (oI o))], [], (am_sh, I, J)) = some (some (.int (Int32.ofInt (fvC (cpW g) gv S p o))), (am_sh, I, J)) := by
  have b1 := bg_1 B
  have h64 := p64 (show gP g ≤ 6 by omega)
  have hp6 := bit_lt hS hp
  have h1 := rmv_sm S (by omega) p (by omega) hp
  simp (disch := omega) only [b_X0_sumWith_0, b_X0_sumWith_8, Option.bind_some, am_k_v, am_k_n, ↓n_in, nI_clamp, i_p1, nI_leI, nI_ltI, nI_eq, n_lt0, n_le0, n_eq0, n_gt0, n_lm, n_em, n_me, n_mlt, false_or, or_false, true_or, or_true, false_and, and_false, true_and, and_true, not_false_eq_true, not_true_eq_false, if_true, if_false, if_pos, if_neg, am_b01, am_b0, am_b1, ne_eq, eq_self, reduceCtorEq, rng_t, Bool.and_true, Bool.and_false, Bool.true_and, Bool.false_and, ite_rgI, if_pos rfl, sx_personA R, i_bit, s_rm]
  cases o with
  | none =>
    simp (disch := omega) only [sx_personA R, show rng (gP g) (oI none) = false from decide_eq_false (fun q => q.1 (by decide)), b_X0_sumWith_30, Option.bind_some, am_k_v, am_k_n, ↓n_in, nI_clamp, i_p1, nI_leI, nI_ltI, nI_eq, n_lt0, n_le0, n_eq0, n_gt0, n_lm, n_em, n_me, n_mlt, false_or, or_false, true_or, or_true, false_and, and_false, true_and, and_true, not_false_eq_true, not_true_eq_false, if_true, if_false, if_pos, if_neg, am_b01, am_b0, am_b1, ne_eq, eq_self, reduceCtorEq, rng_t, Bool.and_true, Bool.and_false, Bool.true_and, Bool.false_and, ite_rgI, if_pos rfl]
    rw [hG _ h1]
    rfl
  | some q =>
    obtain ⟨q1, q2, q3⟩ := ho q rfl
    have h2 : (rmv S p).testBit q = true := by rw [rmv_bit, q3, Bool.true_and]; exact decide_eq_true (by omega)
    have h3 := rmv_sm (rmv S p) (by omega) q (by omega) h2
    simp (disch := omega) only [oI, sx_personA R, b_X0_sumWith_30, Option.bind_some, am_k_v, am_k_n, ↓n_in, nI_clamp, i_p1, nI_leI, nI_ltI, nI_eq, n_lt0, n_le0, n_eq0, n_gt0, n_lm, n_em, n_me, n_mlt, false_or, or_false, true_or, or_true, false_and, and_false, true_and, and_true, not_false_eq_true, not_true_eq_false, if_true, if_false, if_pos, if_neg, am_b01, am_b0, am_b1, ne_eq, eq_self, reduceCtorEq, rng_t, Bool.and_true, Bool.and_false, Bool.true_and, Bool.false_and, ite_rgI, if_pos rfl, i_bit, s_rm, W p q q1 q2]
    rw [hG _ (Nat.lt_trans h3 h1), ← Int32.ofInt_add]
    rfl
theorem fv_le (B : BG g) {S p : Nat} {o : Option Nat} (hS : S < 2 ^ gP g) (hp : S.testBit p = true) (ho : ∀ q, o = some q → p < q ∧ q < gP g ∧ S.testBit q = true) : -1000000 ≤ fvC (cpW g) (gvC (cpW g) (gP g)) S p o ∧ fvC (cpW g) (gvC (cpW g) (gP g)) S p o ≤ 1000000 := by
  have b1 := bg_1 B
  have h64 := p64 (show gP g ≤ 6 by omega)
  have hp6 := bit_lt hS hp
  have h1 := rmv_sm S (by omega) p (by omega) hp
  have hw : ∀ a b, -11520 ≤ cpW g a b ∧ cpW g a b ≤ 11520 := fun a b => by have := cpW_le B (a := a) (b := b); omega
  cases o with
  | none =>
    have := gvC_le (P := gP g) (by omega) hw (rmv S p) (by omega)
    show -1000000 ≤ gvC (cpW g) (gP g) (rmv S p) ∧ gvC (cpW g) (gP g) (rmv S p) ≤ 1000000
    omega
  | some q =>
    obtain ⟨q1, q2, q3⟩ := ho q rfl
    have h2 : (rmv S p).testBit q = true := by rw [rmv_bit, q3, Bool.true_and]; exact decide_eq_true (by omega)
    have h3 := rmv_sm (rmv S p) (by omega) q (by omega) h2
    have := gvC_le (P := gP g) (by omega) hw (rmv (rmv S p) q) (by omega)
    have := hw p q
    show -1000000 ≤ cpW g p q + gvC (cpW g) (gP g) (rmv (rmv S p) q) ∧ cpW g p q + gvC (cpW g) (gP g) (rmv (rmv S p) q) ≤ 1000000
    omega
theorem sx_choice (R : RX g I) (B : BG g) (W : WX g I) {S p : Nat} (hS : S < 2 ^ gP g) (hp : S.testBit p = true) (hG : ∀ T, T < S → I 80 T = Int32.ofInt (gvC (cpW g) (gP g) T)) : am_ev (am_tbl Ls xs) 115 (0, [(0, .ref 72), (1, .int (nI S)), (2, .int (nI p))], [], (am_sh, I, J)) = some (some (.int (oI (chA (fvC (cpW g) (gvC (cpW g) (gP g)) S p) S p (gP g)))), (am_sh, I, J)) := by
  have b1 := bg_1 B
  have h64 := p64 (show gP g ≤ 6 by omega)
  have hp6 := bit_lt hS hp
  have hsum := fun (o : Option Nat) ho => sx_sum (Ls := Ls) (xs := xs) (J := J) (o := o) R B W hS hp hG ho
  have hch : ∀ n, n ≤ gP g → ∀ q, chA (fvC (cpW g) (gvC (cpW g) (gP g)) S p) S p n = some q → p < q ∧ q < gP g ∧ S.testBit q = true := fun n hn q hq => by
    have := (chA_spec (F := fvC (cpW g) (gvC (cpW g) (gP g)) S p) (S := S) (p := p) n).1 q hq
    exact ⟨this.1, by omega, this.2.2⟩
  rw [b_X0_choice_0, show ((-1) : Int32) = oI none from rfl, hsum none (fun q h => by cases h), Option.bind_some, am_k_v, b_X0_choice_9, nI_1]
  refine Eq.trans ?_ ((lpa (a := p + 1) (N := gP g) (f := fun k => am_ev (am_tbl Ls xs) 115 (16, [(0, .ref 72), (1, .int (nI S)), (2, .int (nI p)), (3, .int (oI (chA (fvC (cpW g) (gvC (cpW g) (gP g)) S p) S p k))), (4, .int (Int32.ofInt (fvC (cpW g) (gvC (cpW g) (gP g)) S p (chA (fvC (cpW g) (gvC (cpW g) (gP g)) S p) S p k)))), (5, .int (nI k))], [], (am_sh, I, J))) (by omega) ?_).trans ?_)
  · try dsimp only
    rw [chA_low (p + 1) (Nat.le_refl _)]
  · intro k hk1 hk
    try dsimp only
    rw [b_X0_choice_16, s_bit S (by omega) k (by omega)]
    rw [show chA (fvC (cpW g) (gvC (cpW g) (gP g)) S p) S p (k + 1) = if (p < k ∧ S.testBit k = true) ∧ fvC (cpW g) (gvC (cpW g) (gP g)) S p (chA (fvC (cpW g) (gvC (cpW g) (gP g)) S p) S p k) < fvC (cpW g) (gvC (cpW g) (gP g)) S p (some k) then some k else chA (fvC (cpW g) (gvC (cpW g) (gP g)) S p) S p k from rfl]
    have hck := hch k (by omega)
    have bo := fv_le B hS hp hck
    generalize hc : chA (fvC (cpW g) (gvC (cpW g) (gP g)) S p) S p k = c at hck bo ⊢
    cases hb : S.testBit k
    · rw [if_neg (c := (p < k ∧ false = true) ∧ _) (fun z => Bool.noConfusion z.1.2)]
      simp (disch := omega) only [Option.bind_some, am_k_v, am_k_n, ↓n_in, nI_clamp, i_p1, nI_leI, nI_ltI, nI_eq, n_lt0, n_le0, n_eq0, n_gt0, n_lm, n_em, n_me, n_mlt, false_or, or_false, true_or, or_true, false_and, and_false, true_and, and_true, not_false_eq_true, not_true_eq_false, if_true, if_false, if_pos, if_neg, am_b01, am_b0, am_b1, ne_eq, eq_self, reduceCtorEq, rng_t, Bool.and_true, Bool.and_false, Bool.true_and, Bool.false_and, ite_rgI, if_pos rfl, rx_P R, b_X0_choice_63]
      try rfl
    · have hs := hsum (some k) (fun q h => by cases h; exact ⟨by omega, hk, hb⟩)
      have bk := fv_le B hS hp (o := some k) (fun q h => by cases h; exact ⟨by omega, hk, hb⟩)
      rw [show oI (some k) = nI k from rfl] at hs
      rw [rx_P R, if_neg (nI_ge hk (by omega)), if_neg (by decide), hs, Option.bind_some, am_k_v, b_X0_choice_45]
      by_cases hf : fvC (cpW g) (gvC (cpW g) (gP g)) S p c < fvC (cpW g) (gvC (cpW g) (gP g)) S p (some k)
      · rw [if_neg (by rw [oi_le (by omega) (by omega)]; omega), if_pos ⟨⟨by omega, rfl⟩, hf⟩, hs, Option.bind_some, am_k_v, b_X0_choice_58, b_X0_choice_63, i_p1]
        rfl
      · rw [if_pos (by rw [oi_le (by omega) (by omega)]; omega), if_neg (fun z => hf z.2), b_X0_choice_63, i_p1]
  · try dsimp only
    rw [b_X0_choice_16]
    simp (disch := omega) only [Option.bind_some, am_k_v, am_k_n, ↓n_in, nI_clamp, i_p1, nI_leI, nI_ltI, nI_eq, n_lt0, n_le0, n_eq0, n_gt0, n_lm, n_em, n_me, n_mlt, false_or, or_false, true_or, or_true, false_and, and_false, true_and, and_true, not_false_eq_true, not_true_eq_false, if_true, if_false, if_pos, if_neg, am_b01, am_b0, am_b1, ne_eq, eq_self, reduceCtorEq, rng_t, Bool.and_true, Bool.and_false, Bool.true_and, Bool.false_and, ite_rgI, if_pos rfl, rx_P R]
/-- all that is weighed -/
def fr74 (I I' : Nat → Nat → Int32) : Prop := ∀ q k, (q < 74 ∨ 80 < q ∨ (q = 80 ∧ k = 0)) → I' q k = I q k
theorem rx_fr74 (B : BG g) (R : RX g I) (F : fr74 I I') : RX g I' := rx_cong B (fun q k h => F q k (by unfold xS at h; omega)) R
theorem sx_weigh (R : RX g I) (B : BG g) (D : RD g J) (h80 : I 80 0 = 0) : ∃ I', am_ev (am_tbl Ls xs) 112 (0, [(0, .ref 72)], [], (am_sh, I, J)) = some (none, (am_sh, I', J)) ∧ fr74 I I' ∧ WX g I' ∧ ∀ T, T < 2 ^ gP g → I' 80 T = Int32.ofInt (gvC (cpW g) (gP g) T) := by
  have b1 := bg_1 B
  have h64 := p64 (show gP g ≤ 6 by omega)
  have hpos : 0 < 2 ^ gP g := Nat.two_pow_pos _
  obtain ⟨I1, ⟨F1, W1⟩, e1⟩ := lpe (N := gP g) (f := fun k I' => am_ev (am_tbl Ls xs) 112 (2, [(0, .ref 72), (1, .int (nI k))], [], (am_sh, I', J))) (V := fun k I' => fr74 I I' ∧ ∀ p q, p < k → p < q → q < gP g → I' (74 + p) q = Int32.ofInt (cpW g p q)) (by
    intro k I1 hk ⟨F1, W1⟩
    have R1 := rx_fr74 B R F1
    obtain ⟨I2, ⟨F2, W2, W3⟩, e2⟩ := lpe (N := gP g - (k + 1)) (f := fun j I' => am_ev (am_tbl Ls xs) 112 (17, [(0, .ref 72), (1, .int (nI k)), (2, .int (nI (k + 1 + j)))], [], (am_sh, I', J))) (V := fun j I' => fr74 I I' ∧ (∀ p q, p < k → p < q → q < gP g → I' (74 + p) q = Int32.ofInt (cpW g p q)) ∧ ∀ q, k < q → q < k + 1 + j → I' (74 + k) q = Int32.ofInt (cpW g k q)) (by
      intro j I2 hj ⟨F2, W2, W3⟩
      have R2 := rx_fr74 B R F2
      have hw := sx_worth (Ls := Ls) (xs := xs) (J := J) R2 B D (p := k) (q := k + 1 + j) (by omega) (by omega) (by omega)
      rw [show min k (k + 1 + j) = k by omega, show max k (k + 1 + j) = k + 1 + j by omega] at hw
      refine ⟨am_up2 I2 (74 + k) (k + 1 + j) (Int32.ofInt (cpW g k (k + 1 + j))), ⟨fun q i hq => ?_, fun p q h1 h2 h3 => ?_, fun q h1 h2 => ?_⟩, ?_⟩
      · rw [up_ne (by omega)]; exact F2 q i hq
      · rw [up_ne (by omega)]; exact W2 p q h1 h2 h3
      · by_cases e : q = k + 1 + j
        · rw [e, up_eq]
        · rw [up_ne (by omega)]; exact W3 q h1 (by omega)
      · have hg : ¬ (nI k < 0 ∨ 6 ≤ Int32.toNatClampNeg (nI k)) := i_in (by omega) (by omega)
        have h41 := b_X0_weighAll_41 (Ls := Ls) (xs := xs) I2 J (nI k) (nI (k + 1 + j)) (Int32.ofInt (cpW g k (k + 1 + j))) (nI (k + 1 + j)) (nI k) hg
        rw [nI_clamp (show k < 2 ^ 31 by omega), nI_clamp (show k + 1 + j < 2 ^ 31 by omega)] at h41
        try dsimp only
        rw [b_X0_weighAll_17]
        simp (disch := omega) only [Option.bind_some, am_k_v, am_k_n, ↓n_in, nI_clamp, i_p1, nI_leI, nI_ltI, nI_eq, n_lt0, n_le0, n_eq0, n_gt0, n_lm, n_em, n_me, n_mlt, false_or, or_false, true_or, or_true, false_and, and_false, true_and, and_true, not_false_eq_true, not_true_eq_false, if_true, if_false, if_pos, if_neg, am_b01, am_b0, am_b1, ne_eq, eq_self, reduceCtorEq, rng_t, Bool.and_true, Bool.and_false, Bool.true_and, Bool.false_and, ite_rgI, if_pos rfl, rx_P R2, hw]
        rw [h41, n_guard ⟨by omega, by omega⟩, i_p1]
        rw [show k + 1 + j + 1 = k + 1 + (j + 1) by omega]) I1 ⟨F1, W1, fun q h1 h2 => by omega⟩
    refine ⟨I2, ⟨F2, fun p q h1 h2 h3 => ?_⟩, ?_⟩
    · rcases Nat.lt_or_ge p k with z | z
      · exact W2 p q z h2 h3
      · rw [show p = k by omega] at h2 ⊢
        exact W3 q h2 (by omega)
    · have R2 := rx_fr74 B R F2
      try dsimp only
      rw [b_X0_weighAll_2, rx_P R1, if_neg (nI_ge hk (by omega)), nI_1]
      refine e2.trans ?_
      try dsimp only
      rw [b_X0_weighAll_17, rx_P R2, if_pos (nI_le (by omega) (by omega)), i_p1]) I ⟨fun q k _ => rfl, fun p q h => absurd h (Nat.not_lt_zero p)⟩
  have R1 := rx_fr74 B R F1
  have WX1 : WX g I1 := fun p q h1 h2 => W1 p q (by omega) h1 h2
  obtain ⟨I2, ⟨F2, W2, G2⟩, e2⟩ := lpe (N := 2 ^ gP g - 1) (f := fun k I' => am_ev (am_tbl Ls xs) 112 (56, [(0, .ref 72), (1, .int (nI (k + 1)))], [], (am_sh, I', J))) (V := fun k I' => fr74 I I' ∧ WX g I' ∧ ∀ T, T < k + 1 → I' 80 T = Int32.ofInt (gvC (cpW g) (gP g) T)) (by
    intro k I2 hk ⟨F2, W2, G2⟩
    have R2 := rx_fr74 B R F2
    have hS : k + 1 < 2 ^ gP g := by omega
    obtain ⟨p1, p2⟩ := loB_zero hS (by omega)
    have hl := sx_low (Ls := Ls) (xs := xs) (J := J) R2 B (S := k + 1) (by omega) hS
    have hc := sx_choice (Ls := Ls) (xs := xs) (J := J) R2 B W2 hS p2 G2
    have hs := sx_sum (Ls := Ls) (xs := xs) (J := J) (o := chA (fvC (cpW g) (gvC (cpW g) (gP g)) (k + 1) (loB (k + 1) (gP g))) (k + 1) (loB (k + 1) (gP g)) (gP g)) R2 B W2 hS p2 G2 (fun q hq => (chA_spec (F := fvC (cpW g) (gvC (cpW g) (gP g)) (k + 1) (loB (k + 1) (gP g))) (S := k + 1) (p := loB (k + 1) (gP g)) (gP g)).1 q hq)
    rw [← gvC_s (by omega) (k + 1) (by omega) hS] at hs
    refine ⟨am_up2 I2 80 (k + 1) (Int32.ofInt (gvC (cpW g) (gP g) (k + 1))), ⟨fun q i hq => ?_, fun p q h1 h2 => ?_, fun T hT => ?_⟩, ?_⟩
    · rw [up_ne (by omega)]; exact F2 q i hq
    · rw [up_ne (by omega)]; exact W2 p q h1 h2
    · by_cases e : T = k + 1
      · rw [e, up_eq]
      · rw [up_ne (by omega)]; exact G2 T (by omega)
    · try dsimp only
      rw [b_X0_weighAll_56, rx_P R2, s_full (gP g) (by omega), if_neg (nI_ge hS (by omega)), hl, Option.bind_some, am_k_v, b_X0_weighAll_74, hc, Option.bind_some, am_k_v, b_X0_weighAll_89, hs, Option.bind_some, am_k_v, b_X0_weighAll_92]
      simp (disch := omega) only [Option.bind_some, am_k_v, am_k_n, ↓n_in, nI_clamp, i_p1, nI_leI, nI_ltI, nI_eq, n_lt0, n_le0, n_eq0, n_gt0, n_lm, n_em, n_me, n_mlt, false_or, or_false, true_or, or_true, false_and, and_false, true_and, and_true, not_false_eq_true, not_true_eq_false, if_true, if_false, if_pos, if_neg, am_b01, am_b0, am_b1, ne_eq, eq_self, reduceCtorEq, rng_t, Bool.and_true, Bool.and_false, Bool.true_and, Bool.false_and, ite_rgI, if_pos rfl]) I1 ⟨F1, WX1, fun T hT => by
        rw [show T = 0 by omega, F1 80 0 (by omega), h80, gvC_0]; rfl⟩
  have R2 := rx_fr74 B R F2
  refine ⟨I2, ?_, F2, W2, fun T hT => G2 T (by omega)⟩
  rw [b_X0_weighAll_0]
  refine e1.trans ?_
  try dsimp only
  rw [b_X0_weighAll_2, rx_P R1, if_pos (nI_le (by omega) (by omega))]
  refine e2.trans ?_
  try dsimp only
  rw [b_X0_weighAll_56, rx_P R2, s_full (gP g) (by omega), if_pos (nI_le (by omega) (by omega))]
theorem sx_partner (R : RX g I) (B : BG g) (W : WX g I) (G : ∀ T, T < 2 ^ gP g → I 80 T = Int32.ofInt (gvC (cpW g) (gP g) T)) {a : Nat} (ha : a < gP g) : ∀ n i S, n + i = gP g → S < 2 ^ gP g → am_ev (am_tbl Ls xs) 117 (14, [(0, .ref 72), (1, .int (nI a)), (2, .int (nI S)), (3, .int (nI i))], [], (am_sh, I, J)) = some (some (.int (oI (mtC (cpW g) (gvC (cpW g) (gP g)) (gP g) n S a))), (am_sh, I, J)) := by
  have b1 := bg_1 B
  have h64 := p64 (show gP g ≤ 6 by omega)
  intro n
  induction n with
  | zero =>
    intro i S hi hS
    rw [b_X0_partnerOf_14, rx_P R, if_pos (nI_le (by omega) (by omega)), b_X0_partnerOf_99]
    rfl
  | succ n ih =>
    intro i S hi hS
    rw [b_X0_partnerOf_14, rx_P R, if_neg (nI_ge (by omega) (by omega))]
    by_cases h0 : S = 0
    · rw [if_pos ((n_eq0 (by omega)).mpr h0), b_X0_partnerOf_99, h0]
      unfold mtC
      rw [if_pos rfl]
      rfl
    · rw [if_neg (fun q => h0 ((n_eq0 (by omega)).mp q))]
      obtain ⟨p1, p2⟩ := loB_zero hS h0
      have hl := sx_low (Ls := Ls) (xs := xs) (J := J) R B h0 hS
      have hc := sx_choice (Ls := Ls) (xs := xs) (J := J) R B W hS p2 (fun T hT => G T (by omega))
      have hcs := (chA_spec (F := fvC (cpW g) (gvC (cpW g) (gP g)) S (loB S (gP g))) (S := S) (p := loB S (gP g)) (gP g)).1
      rw [hl, Option.bind_some, am_k_v, b_X0_partnerOf_34, hc, Option.bind_some, am_k_v, b_X0_partnerOf_43]
      rw [mtC.eq_2, if_neg h0]
      generalize chA (fvC (cpW g) (gvC (cpW g) (gP g)) S (loB S (gP g))) S (loB S (gP g)) (gP g) = c at hcs ⊢
      generalize loB S (gP g) = p at p1 p2 hcs ⊢
      have hr1 : rmv S p < 2 ^ gP g := rmv_lt hS
      by_cases e1 : a = p
      · rw [if_neg (by rw [e1]; simp), if_pos e1]
      · rw [if_pos (by rw [ne_eq, nI_eq (by omega) (by omega)]; exact fun z => e1 z.symm), if_neg e1]
        cases c with
        | none =>
          rw [if_pos (show oI none ≠ nI a from fun z => (n_me (show a < 2147483648 by omega)).mp z)]
          simp (disch := omega) only [Option.bind_some, am_k_v, am_k_n, ↓n_in, nI_clamp, i_p1, nI_leI, nI_ltI, nI_eq, n_lt0, n_le0, n_eq0, n_gt0, n_lm, n_em, n_me, n_mlt, false_or, or_false, true_or, or_true, false_and, and_false, true_and, and_true, not_false_eq_true, not_true_eq_false, if_true, if_false, if_pos, if_neg, am_b01, am_b0, am_b1, ne_eq, eq_self, reduceCtorEq, rng_t, Bool.and_true, Bool.and_false, Bool.true_and, Bool.false_and, ite_rgI, if_pos rfl, sx_personA R, show rng (gP g) (oI none) = false from decide_eq_false (fun q => q.1 (by decide)), b_X0_partnerOf_81, b_X0_partnerOf_93, i_bit, s_rm]
          exact ih (i + 1) _ (by omega) hr1
        | some q =>
          obtain ⟨q1, q2, q3⟩ := hcs q rfl
          dsimp only
          by_cases e2 : a = q
          · rw [if_neg (by rw [e2]; simp [oI]), if_pos e2]; rfl
          · rw [if_pos (show oI (some q) ≠ nI a by show nI q ≠ nI a; rw [ne_eq, nI_eq (by omega) (by omega)]; exact fun z => e2 z.symm), if_neg e2]
            simp (disch := omega) only [Option.bind_some, am_k_v, am_k_n, ↓n_in, nI_clamp, i_p1, nI_leI, nI_ltI, nI_eq, n_lt0, n_le0, n_eq0, n_gt0, n_lm, n_em, n_me, n_mlt, false_or, or_false, true_or, or_true, false_and, and_false, true_and, and_true, not_false_eq_true, not_true_eq_false, if_true, if_false, if_pos, if_neg, am_b01, am_b0, am_b1, ne_eq, eq_self, reduceCtorEq, rng_t, Bool.and_true, Bool.and_false, Bool.true_and, Bool.false_and, ite_rgI, if_pos rfl, oI, sx_personA R, b_X0_partnerOf_81, b_X0_partnerOf_93, i_bit, s_rm]
            exact ih (i + 1) _ (by omega) (rmv_lt hr1)
def cplR (g : Vg) : Option Nat → Int32
  | none => Int32.ofInt (gvC (cpW g) (gP g) (2 ^ gP g - 1))
  | some a => oI (mtC (cpW g) (gvC (cpW g) (gP g)) (gP g) (gP g) (2 ^ gP g - 1) a)
theorem sx_couples (R : RX g I) (B : BG g) (D : RD g J) (h80 : I 80 0 = 0) (o : Option Nat) (ho : ∀ a, o = some a → a < gP g) : ∃ I', am_ev (am_tbl Ls xs) 92 (19, [(0, .ref 0), (1, .int (oI o))], [], (am_sh, I, J)) = some (some (.int (cplR g o)), (am_sh, I', J)) ∧ fr74 I I' := by
  have b1 := bg_1 B
  have h64 := p64 (show gP g ≤ 6 by omega)
  have hpos : 0 < 2 ^ gP g := Nat.two_pow_pos _
  obtain ⟨I', e, F, W, G⟩ := sx_weigh (Ls := Ls) (xs := xs) R B D h80
  have R' := rx_fr74 B R F
  have hf : ((1 : Int32) <<< (I' 18 4 &&& 31)) - 1 = nI (2 ^ gP g - 1) := by rw [rx_P R', s_full (gP g) (by omega), show (1 : Int32) = nI 1 from rfl, pk_sub (by omega)]
  refine ⟨I', ?_, F⟩
  rw [b_X8_couples_19, e, Option.bind_some, am_k_n, b_X8_couples_26]
  cases o with
  | none =>
    rw [if_neg (by simp [oI]), b_X0_bestSum_0, hf]
    simp (disch := omega) only [Option.bind_some, am_k_v, am_k_n, ↓n_in, nI_clamp, i_p1, nI_leI, nI_ltI, nI_eq, n_lt0, n_le0, n_eq0, n_gt0, n_lm, n_em, n_me, n_mlt, false_or, or_false, true_or, or_true, false_and, and_false, true_and, and_true, not_false_eq_true, not_true_eq_false, if_true, if_false, if_pos, if_neg, am_b01, am_b0, am_b1, ne_eq, eq_self, reduceCtorEq, rng_t, Bool.and_true, Bool.and_false, Bool.true_and, Bool.false_and, ite_rgI, if_pos rfl, b_X8_couples_38, b_X8_couples_49_2]
    rw [G _ (by omega)]
    rfl
  | some a =>
    have ha := ho a rfl
    rw [if_pos (show oI (some a) ≠ -1 from fun z => (n_em (show a < 2147483648 by omega)).mp z), b_X0_partnerOf_0, hf]
    have := sx_partner (Ls := Ls) (xs := xs) (J := J) R' B W G ha (gP g) 0 (2 ^ gP g - 1) (by omega) (by omega)
    show Option.bind (am_ev (am_tbl Ls xs) 117 (14, [(0, .ref 72), (1, .int (nI a)), (2, .int (nI (2 ^ gP g - 1))), (3, .int (nI 0))], [], (am_sh, I', J))) _ = _
    rw [this, Option.bind_some, am_k_v, b_X8_couples_49]
    rfl
end
