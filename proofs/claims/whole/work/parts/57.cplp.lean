/-! COUPLES, in whole numbers: sets are numbers below 64 -/
def rmv (S p : Nat) : Nat := if S.testBit p = true then S ^^^ 2 ^ p else S
theorem rmv_bit (S p j : Nat) : (rmv S p).testBit j = (S.testBit j && decide (j ≠ p)) := by
  unfold rmv
  by_cases h : S.testBit p = true
  · rw [if_pos h, Nat.testBit_xor, Nat.testBit_two_pow]
    by_cases e : j = p
    · subst e; simp [h]
    · simp [e, show ¬ p = j by omega]
  · rw [if_neg h]
    by_cases e : j = p
    · subst e
      cases hx : S.testBit j
      · rfl
      · exact absurd hx h
    · simp [e]
theorem bit_lt {S P : Nat} (h : S < 2 ^ P) {j : Nat} (hj : S.testBit j = true) : j < P := by
  refine Classical.byContradiction fun q => ?_
  have := Nat.testBit_lt_two_pow (Nat.lt_of_lt_of_le h (Nat.pow_le_pow_right (by decide) (show P ≤ j by omega)))
  rw [this] at hj; cases hj
theorem rmv_lt {S P p : Nat} (h : S < 2 ^ P) : rmv S p < 2 ^ P := by
  apply Nat.lt_pow_two_of_testBit
  intro j hj
  rw [rmv_bit]
  cases hx : S.testBit j
  · rfl
  · have := bit_lt h hx; omega
/-- the lowest below n, n for none -/
def loB (S : Nat) : Nat → Nat
  | 0 => 0
  | n + 1 => if loB S n < n then loB S n else if S.testBit n = true then n else n + 1
theorem loB_spec (S : Nat) : ∀ n, loB S n ≤ n ∧ (∀ j, j < loB S n → S.testBit j = false) ∧ (loB S n < n → S.testBit (loB S n) = true) := by
  intro n
  induction n with
  | zero => exact ⟨Nat.le_refl _, fun j hj => absurd hj (Nat.not_lt_zero j), fun h => absurd h (Nat.not_lt_zero _)⟩
  | succ n ih =>
    obtain ⟨h1, h2, h3⟩ := ih
    unfold loB
    by_cases q : loB S n < n
    · rw [if_pos q]
      exact ⟨by omega, h2, fun _ => h3 q⟩
    · rw [if_neg q]
      have e : loB S n = n := by omega
      by_cases r : S.testBit n = true
      · rw [if_pos r]
        exact ⟨by omega, fun j hj => h2 j (by omega), fun _ => r⟩
      · rw [if_neg r]
        refine ⟨by omega, fun j hj => ?_, fun h => absurd h (Nat.lt_irrefl _)⟩
        rcases Nat.lt_or_ge j n with w | w
        · exact h2 j (by omega)
        · rw [show j = n by omega]
          cases hx : S.testBit n
          · rfl
          · exact absurd hx r
theorem loB_zero {S P : Nat} (h : S < 2 ^ P) (h0 : S ≠ 0) : loB S P < P ∧ S.testBit (loB S P) = true := by
  obtain ⟨h1, h2, h3⟩ := loB_spec S P
  have : loB S P < P := by
    refine Classical.byContradiction fun q => h0 ?_
    apply Nat.eq_of_testBit_eq
    intro j
    rw [Nat.zero_testBit]
    rcases Nat.lt_or_ge j P with w | w
    · exact h2 j (by omega)
    · cases hx : S.testBit j
      · rfl
      · have := bit_lt h hx; omega
  exact ⟨this, h3 this⟩
/-- what a set is worth where its lowest walks alone, or with somebody -/
def fvC (w : Nat → Nat → Int) (gv : Nat → Int) (S p : Nat) : Option Nat → Int
  | none => gv (rmv S p)
  | some q => w p q + gv (rmv (rmv S p) q)
def chA (F : Option Nat → Int) (S p : Nat) : Nat → Option Nat
  | 0 => none
  | q + 1 => if (p < q ∧ S.testBit q = true) ∧ F (chA F S p q) < F (some q) then some q else chA F S p q
def co : Option Nat → Nat
  | none => 0
  | some q => q + 1
theorem co_inj {a b : Option Nat} (h : co a = co b) : a = b := by
  cases a <;> cases b <;> simp [co] at h ⊢
  exact h
theorem chA_low {F : Option Nat → Int} {S p : Nat} : ∀ n, n ≤ p + 1 → chA F S p n = none := by
  intro n
  induction n with
  | zero => intro _; rfl
  | succ n ih =>
    intro h
    unfold chA
    rw [if_neg (fun q => by omega)]
    exact ih (by omega)
theorem chA_spec {F : Option Nat → Int} {S p : Nat} : ∀ n, (∀ q, chA F S p n = some q → p < q ∧ q < n ∧ S.testBit q = true) ∧ F none ≤ F (chA F S p n) ∧ (∀ q, p < q → q < n → S.testBit q = true → F (some q) ≤ F (chA F S p n)) ∧ (∀ q, p < q → q < n → S.testBit q = true → F (some q) = F (chA F S p n) → co (chA F S p n) ≤ q + 1) := by
  intro n
  induction n with
  | zero => exact ⟨(fun q h => by cases h), Int.le_refl _, fun q _ h => absurd h (Nat.not_lt_zero q), fun q _ h => absurd h (Nat.not_lt_zero q)⟩
  | succ n ih =>
    obtain ⟨h1, h2, h3, h4⟩ := ih
    unfold chA
    by_cases h : (p < n ∧ S.testBit n = true) ∧ F (chA F S p n) < F (some n)
    · rw [if_pos h]
      refine ⟨(fun q hq => by cases hq; exact ⟨h.1.1, by omega, h.1.2⟩), by omega, fun q a b c => ?_, fun q a b c d => ?_⟩
      · rcases Nat.lt_or_ge q n with e | e
        · have := h3 q a e c; omega
        · rw [show q = n by omega]; exact Int.le_refl _
      · rcases Nat.lt_or_ge q n with e | e
        · have := h3 q a e c; omega
        · rw [show q = n by omega]; exact Nat.le_refl _
    · rw [if_neg h]
      refine ⟨(fun q hq => by have := h1 q hq; exact ⟨this.1, by omega, this.2.2⟩), h2, fun q a b c => ?_, fun q a b c d => ?_⟩
      · rcases Nat.lt_or_ge q n with e | e
        · exact h3 q a e c
        · have e2 : q = n := by omega
          subst e2
          exact Classical.byContradiction fun z => h ⟨⟨a, c⟩, by omega⟩
      · rcases Nat.lt_or_ge q n with e | e
        · exact h4 q a e c d
        · cases hc : chA F S p n with
          | none => exact Nat.zero_le _
          | some y => have := h1 y hc; show y + 1 ≤ q + 1; omega
theorem chA_st {F : Option Nat → Int} {S p : Nat} : ∀ n q, chA F S p n = some q → F none < F (some q) := by
  intro n
  induction n with
  | zero => intro q h; cases h
  | succ n ih =>
    intro q h
    unfold chA at h
    split at h
    · rename_i hh
      cases h
      have := (chA_spec (F := F) (S := S) (p := p) n).2.1
      omega
    · exact ih q h
/-- the way the best couples are found: n of them at most -/
def mtC (w : Nat → Nat → Int) (gv : Nat → Int) (P : Nat) : Nat → Nat → Nat → Option Nat
  | 0, _, _ => none
  | n + 1, S, a => if S = 0 then none else
    if a = loB S P then chA (fvC w gv S (loB S P)) S (loB S P) P
    else match chA (fvC w gv S (loB S P)) S (loB S P) P with
      | none => mtC w gv P n (rmv S (loB S P)) a
      | some q => if a = q then some (loB S P) else mtC w gv P n (rmv (rmv S (loB S P)) q) a
def vlC (S : Nat) (μ : Nat → Option Nat) : Prop := ∀ p, S.testBit p = true → ∀ q, μ p = some q → S.testBit q = true ∧ q ≠ p ∧ μ q = some p
def cbC (w : Nat → Nat → Int) (μ : Nat → Option Nat) (k : Nat) : Int := match μ k with
  | some o => if o < k then w o k else 0
  | none => 0
def suC (f : Nat → Int) (S : Nat) : Nat → Int
  | 0 => 0
  | n + 1 => suC f S n + (if S.testBit n = true then f n else 0)
theorem suC_rmv (f : Nat → Int) (S p : Nat) (hp : S.testBit p = true) : ∀ n, suC f S n = suC f (rmv S p) n + (if p < n then f p else 0) := by
  intro n
  induction n with
  | zero => rw [if_neg (Nat.not_lt_zero p)]; rfl
  | succ n ih =>
    show suC f S n + _ = suC f (rmv S p) n + _ + _
    rw [ih, rmv_bit]
    by_cases e : n = p
    · subst e
      rw [hp, if_pos rfl, if_neg (Nat.lt_irrefl n), if_pos (Nat.lt_succ_self n)]
      simp
    · have e2 : (p < n + 1) = (p < n) := by simp; omega
      simp only [e, e2, ne_eq, not_false_eq_true, decide_true, Bool.and_true]
      split <;> split <;> omega
theorem suC_cong {f g : Nat → Int} {S : Nat} : ∀ {n : Nat}, (∀ k, k < n → S.testBit k = true → f k = g k) → suC f S n = suC g S n
  | 0, _ => rfl
  | n + 1, h => by
    show suC f S n + _ = suC g S n + _
    rw [suC_cong (fun k hk => h k (by omega))]
    by_cases e : S.testBit n = true
    · rw [if_pos e, if_pos e, h n (by omega) e]
    · rw [if_neg e, if_neg e]
theorem suC_0 (f : Nat → Int) : ∀ n, suC f 0 n = 0
  | 0 => rfl
  | n + 1 => by
    show suC f 0 n + _ = 0
    rw [suC_0 f n, Nat.zero_testBit]; rfl
/-- those of a part -/
theorem vlC_rmv1 {S p : Nat} {μ : Nat → Option Nat} (h : vlC S μ) (hp : S.testBit p = true) (h0 : μ p = none) : vlC (rmv S p) μ := by
  intro a ha q hq
  rw [rmv_bit, Bool.and_eq_true_iff] at ha
  obtain ⟨h1, h2, h3⟩ := h a ha.1 q hq
  refine ⟨?_, h2, h3⟩
  rw [rmv_bit, h1, Bool.true_and]
  refine decide_eq_true fun e => ?_
  rw [e, h0] at h3; cases h3
theorem vlC_rmv2 {S p q : Nat} {μ : Nat → Option Nat} (h : vlC S μ) (hp : S.testBit p = true) (h0 : μ p = some q) : vlC (rmv (rmv S p) q) μ := by
  have hq := h p hp q h0
  intro a ha y hy
  rw [rmv_bit, rmv_bit, Bool.and_eq_true_iff, Bool.and_eq_true_iff] at ha
  have na : a ≠ p := of_decide_eq_true ha.1.2
  have nq : a ≠ q := of_decide_eq_true ha.2
  obtain ⟨h1, h2, h3⟩ := h a ha.1.1 y hy
  refine ⟨?_, h2, h3⟩
  rw [rmv_bit, rmv_bit, h1, Bool.true_and, Bool.and_eq_true_iff]
  refine ⟨decide_eq_true fun e => ?_, decide_eq_true fun e => ?_⟩
  · rw [e, h0] at h3; cases h3; exact nq rfl
  · rw [e, hq.2.2] at h3; cases h3; exact na rfl
theorem cpl_main {w : Nat → Nat → Int} {gv : Nat → Int} {P : Nat} (g0 : gv 0 = 0) (gs : ∀ S, S ≠ 0 → S < 2 ^ P → gv S = fvC w gv S (loB S P) (chA (fvC w gv S (loB S P)) S (loB S P) P)) :
    ∀ n S, n ≤ P → S < 2 ^ P → (∀ j, S.testBit j = true → P - n ≤ j) →
      (vlC S (mtC w gv P n S) ∧ suC (cbC w (mtC w gv P n S)) S P = gv S ∧ ∀ a, S.testBit a = false → mtC w gv P n S a = none) ∧
      ∀ μ, vlC S μ → suC (cbC w μ) S P ≤ gv S ∧ (suC (cbC w μ) S P = gv S → (∀ j, S.testBit j = true → mtC w gv P n S j = μ j) ∨ ∃ k, S.testBit k = true ∧ (∀ j, j < k → S.testBit j = true → mtC w gv P n S j = μ j) ∧ co (mtC w gv P n S k) < co (μ k)) := by
  intro n
  induction n with
  | zero =>
    intro S hn hS hb
    have h0 : S = 0 := by
      apply Nat.eq_of_testBit_eq
      intro j
      rw [Nat.zero_testBit]
      cases hx : S.testBit j
      · rfl
      · have a := hb j hx; have b := bit_lt hS hx; omega
    subst h0
    refine ⟨⟨fun p hp => ?_, ?_, fun a _ => rfl⟩, fun μ hμ => ⟨?_, fun _ => Or.inl fun j hj => ?_⟩⟩
    · rw [Nat.zero_testBit] at hp; cases hp
    · rw [suC_0, g0]
    · rw [suC_0, g0]; exact Int.le_refl _
    · rw [Nat.zero_testBit] at hj; cases hj
  | succ n ih =>
    intro S hn hS hb
    by_cases h0 : S = 0
    · subst h0
      refine ⟨⟨fun p hp => ?_, ?_, fun a _ => ?_⟩, fun μ hμ => ⟨?_, fun _ => Or.inl fun j hj => ?_⟩⟩
      · rw [Nat.zero_testBit] at hp; cases hp
      · rw [suC_0, g0]
      · unfold mtC; rw [if_pos rfl]
      · rw [suC_0, g0]; exact Int.le_refl _
      · rw [Nat.zero_testBit] at hj; cases hj
    · obtain ⟨p1, p2⟩ := loB_zero hS h0
      have plow := (loB_spec S P).2.1
      have hgs := gs S h0 hS
      have hM : mtC w gv P (n + 1) S = fun a => if a = loB S P then chA (fvC w gv S (loB S P)) S (loB S P) P else match chA (fvC w gv S (loB S P)) S (loB S P) P with
        | none => mtC w gv P n (rmv S (loB S P)) a
        | some q => if a = q then some (loB S P) else mtC w gv P n (rmv (rmv S (loB S P)) q) a := by
        funext a
        rw [mtC.eq_2, if_neg h0]
      generalize mtC w gv P (n + 1) S = M0 at hM ⊢
      have hc := chA_spec (F := fvC w gv S (loB S P)) (S := S) (p := loB S P) P
      have hst := chA_st (F := fvC w gv S (loB S P)) (S := S) (p := loB S P) P
      generalize chA (fvC w gv S (loB S P)) S (loB S P) P = c at hgs hc hst hM ⊢
      generalize loB S P = p at p1 p2 plow hgs hc hst hM ⊢
      have hlowS : ∀ j, S.testBit j = true → p ≤ j := fun j hj => by
        refine Classical.byContradiction fun q => ?_
        rw [plow j (by omega)] at hj; cases hj
      have hpn := hb p p2
      -- the rest, alone
      have r1 : rmv S p < 2 ^ P := rmv_lt hS
      have b1 : ∀ j, (rmv S p).testBit j = true → P - n ≤ j := fun j hj => by
        rw [rmv_bit, Bool.and_eq_true_iff] at hj
        have := hlowS j hj.1
        have : j ≠ p := of_decide_eq_true hj.2
        omega
      have b2 : ∀ q j, (rmv (rmv S p) q).testBit j = true → P - n ≤ j := fun q j hj => by
        rw [rmv_bit, Bool.and_eq_true_iff] at hj
        exact b1 j hj.1
      have ih1 := ih (rmv S p) (by omega) r1 b1
      have ih2 := fun q => ih (rmv (rmv S p) q) (by omega) (rmv_lt r1) (b2 q)
      -- sums of a valid way
      have sum1 : ∀ μ, vlC S μ → μ p = none → suC (cbC w μ) S P = suC (cbC w μ) (rmv S p) P := fun μ hμ h => by
        rw [suC_rmv _ S p p2, if_pos p1]
        have : cbC w μ p = 0 := by unfold cbC; rw [h]
        omega
      have sum2 : ∀ μ q, vlC S μ → μ p = some q → (p < q ∧ S.testBit q = true) ∧ suC (cbC w μ) S P = w p q + suC (cbC w μ) (rmv (rmv S p) q) P := fun μ q hμ h => by
        obtain ⟨v1, v2, v3⟩ := hμ p p2 q h
        have hpq : p < q := by have := hlowS q v1; omega
        have hq2 : (rmv S p).testBit q = true := by
          rw [rmv_bit, v1, Bool.true_and]; exact decide_eq_true v2
        refine ⟨⟨hpq, v1⟩, ?_⟩
        rw [suC_rmv _ S p p2, if_pos p1, suC_rmv _ (rmv S p) q hq2, if_pos (bit_lt hS v1)]
        have e1 : cbC w μ p = 0 := by unfold cbC; rw [h]; dsimp only; rw [if_neg (by omega)]
        have e2 : cbC w μ q = w p q := by unfold cbC; rw [v3]; dsimp only; rw [if_pos hpq]
        omega
      cases c with
      | none =>
        have hgv : gv S = gv (rmv S p) := hgs
        have hMp : M0 = mtC w gv P n (rmv S p) := by
          rw [hM]
          funext a
          try dsimp only
          by_cases e : a = p
          · rw [if_pos e, e]
            exact (ih1.1.2.2 p (by rw [rmv_bit]; simp)).symm
          · rw [if_neg e]
        rw [hMp]
        have hMn : mtC w gv P n (rmv S p) p = none := ih1.1.2.2 p (by rw [rmv_bit]; simp)
        have hv : vlC S (mtC w gv P n (rmv S p)) := fun a ha q hq => by
          by_cases e : a = p
          · rw [e, hMn] at hq; cases hq
          · have ha2 : (rmv S p).testBit a = true := by rw [rmv_bit, ha, Bool.true_and]; exact decide_eq_true e
            obtain ⟨v1, v2, v3⟩ := ih1.1.1 a ha2 q hq
            rw [rmv_bit, Bool.and_eq_true_iff] at v1
            exact ⟨v1.1, v2, v3⟩
        refine ⟨⟨hv, ?_, fun a ha => ih1.1.2.2 a (by rw [rmv_bit, ha]; rfl)⟩, fun μ hμ => ?_⟩
        · rw [sum1 _ hv hMn, ih1.1.2.1, hgv]
        · cases hp : μ p with
          | none =>
            obtain ⟨u1, u2⟩ := ih1.2 μ (vlC_rmv1 hμ p2 hp)
            rw [sum1 μ hμ hp, hgv]
            refine ⟨u1, fun hu => ?_⟩
            rcases u2 hu with z | ⟨k, z1, z2, z3⟩
            · refine Or.inl fun j hj => ?_
              by_cases e : j = p
              · rw [e, hMn, hp]
              · exact z j (by rw [rmv_bit, hj, Bool.true_and]; exact decide_eq_true e)
            · rw [rmv_bit, Bool.and_eq_true_iff] at z1
              refine Or.inr ⟨k, z1.1, fun j hj hjs => ?_, z3⟩
              by_cases e : j = p
              · rw [e, hMn, hp]
              · exact z2 j hj (by rw [rmv_bit, hjs, Bool.true_and]; exact decide_eq_true e)
          | some q =>
            obtain ⟨s1, s2⟩ := sum2 μ q hμ hp
            obtain ⟨u1, u2⟩ := (ih2 q).2 μ (vlC_rmv2 hμ p2 hp)
            have hF : fvC w gv S p (some q) ≤ fvC w gv S p none := hc.2.2.1 q s1.1 (bit_lt hS s1.2) s1.2
            have hF2 : fvC w gv S p (some q) = w p q + gv (rmv (rmv S p) q) := rfl
            have hF3 : fvC w gv S p none = gv (rmv S p) := rfl
            rw [s2, hgv]
            refine ⟨by omega, fun hu => ?_⟩
            refine Or.inr ⟨p, p2, fun j hj hjs => ?_, ?_⟩
            · have := hlowS j hjs; omega
            · rw [hMn, hp]; exact Nat.succ_pos q
      | some q =>
        have hq := hc.1 q rfl
        have hgv : gv S = w p q + gv (rmv (rmv S p) q) := hgs
        obtain ⟨⟨i1, i2, i3⟩, i4⟩ := ih2 q
        have hRb : ∀ a, (rmv (rmv S p) q).testBit a = (S.testBit a && (decide (a ≠ p) && decide (a ≠ q))) := fun a => by rw [rmv_bit, rmv_bit, Bool.and_assoc]
        have hR : ∀ a, a ≠ p → a ≠ q → S.testBit a = true → (rmv (rmv S p) q).testBit a = true := fun a e1 e2 e3 => by rw [hRb, e3, decide_eq_true e1, decide_eq_true e2]; rfl
        have m1 : M0 p = some q := by rw [hM]; exact if_pos rfl
        have m2 : M0 q = some p := by rw [hM]; show (if q = p then some q else if q = q then some p else _) = _; rw [if_neg (by omega), if_pos rfl]
        have m3 : ∀ a, a ≠ p → a ≠ q → M0 a = mtC w gv P n (rmv (rmv S p) q) a := fun a e1 e2 => by rw [hM]; show (if a = p then some q else if a = q then some p else _) = _; rw [if_neg e1, if_neg e2]
        generalize M0 = M at m1 m2 m3 ⊢
        have hv : vlC S M := fun a ha y hy => by
          by_cases e1 : a = p
          · rw [e1] at hy ⊢
            rw [m1] at hy; cases hy
            exact ⟨hq.2.2, by omega, m2⟩
          · by_cases e2 : a = q
            · rw [e2] at hy ⊢
              rw [m2] at hy; cases hy
              exact ⟨p2, by omega, m1⟩
            · rw [m3 a e1 e2] at hy
              obtain ⟨v1, v2, v3⟩ := i1 a (hR a e1 e2 ha) y hy
              rw [hRb, Bool.and_eq_true_iff, Bool.and_eq_true_iff] at v1
              have n1 : y ≠ p := of_decide_eq_true v1.2.1
              have n2 : y ≠ q := of_decide_eq_true v1.2.2
              exact ⟨v1.1, v2, by rw [m3 y n1 n2]; exact v3⟩
        have hsu : suC (cbC w M) (rmv (rmv S p) q) P = suC (cbC w (mtC w gv P n (rmv (rmv S p) q))) (rmv (rmv S p) q) P := suC_cong fun k _ hk => by
          rw [hRb, Bool.and_eq_true_iff, Bool.and_eq_true_iff] at hk
          unfold cbC
          rw [m3 k (of_decide_eq_true hk.2.1) (of_decide_eq_true hk.2.2)]
        refine ⟨⟨hv, ?_, fun a ha => ?_⟩, fun μ hμ => ?_⟩
        · rw [(sum2 M q hv m1).2, hsu, i2, hgv]
        · have e1 : a ≠ p := fun e => by rw [e, p2] at ha; cases ha
          have e2 : a ≠ q := fun e => by rw [e, hq.2.2] at ha; cases ha
          rw [m3 a e1 e2]
          exact i3 a (by rw [hRb, ha]; rfl)
        · cases hp : μ p with
          | none =>
            obtain ⟨u1, u2⟩ := ih1.2 μ (vlC_rmv1 hμ p2 hp)
            have hF : fvC w gv S p none ≤ fvC w gv S p (some q) := hc.2.1
            have hF2 : fvC w gv S p (some q) = w p q + gv (rmv (rmv S p) q) := rfl
            have hF3 : fvC w gv S p none = gv (rmv S p) := rfl
            rw [sum1 μ hμ hp, hgv]
            have hF4 := hst q rfl
            exact ⟨by omega, fun hu => by omega⟩
          | some y =>
            obtain ⟨s1, s2⟩ := sum2 μ y hμ hp
            obtain ⟨u1, u2⟩ := (ih2 y).2 μ (vlC_rmv2 hμ p2 hp)
            have hF : fvC w gv S p (some y) ≤ fvC w gv S p (some q) := hc.2.2.1 y s1.1 (bit_lt hS s1.2) s1.2
            have hF2 : fvC w gv S p (some q) = w p q + gv (rmv (rmv S p) q) := rfl
            have hF3 : fvC w gv S p (some y) = w p y + gv (rmv (rmv S p) y) := rfl
            rw [s2, hgv]
            refine ⟨by omega, fun hu => ?_⟩
            have hle : q + 1 ≤ y + 1 := hc.2.2.2 y s1.1 (bit_lt hS s1.2) s1.2 (by omega)
            by_cases e : y = q
            · subst e
              rcases u2 (by omega) with z | ⟨k, z1, z2, z3⟩
              · refine Or.inl fun j hj => ?_
                by_cases e1 : j = p
                · rw [e1, m1, hp]
                · by_cases e2 : j = y
                  · rw [e2, m2, (hμ p p2 y hp).2.2]
                  · rw [m3 j e1 e2]; exact z j (hR j e1 e2 hj)
              · have hk := z1
                rw [hRb, Bool.and_eq_true_iff, Bool.and_eq_true_iff] at hk
                have k1 : k ≠ p := of_decide_eq_true hk.2.1
                have k2 : k ≠ y := of_decide_eq_true hk.2.2
                refine Or.inr ⟨k, hk.1, fun j hj hjs => ?_, by rw [m3 k k1 k2]; exact z3⟩
                by_cases e1 : j = p
                · rw [e1, m1, hp]
                · by_cases e2 : j = y
                  · rw [e2, m2, (hμ p p2 y hp).2.2]
                  · rw [m3 j e1 e2]; exact z2 j hj (hR j e1 e2 hjs)
            · refine Or.inr ⟨p, p2, fun j hj hjs => ?_, ?_⟩
              · have := hlowS j hjs; omega
              · rw [m1, hp]; show q + 1 < y + 1; omega
