/-! COUPLES: what a set is worth; ways as numbers -/
theorem rmv_sm : ∀ S, S < 64 → ∀ p, p < 6 → S.testBit p = true → rmv S p < S := by decide +kernel
def gvF (w : Nat → Nat → Int) (P : Nat) : Nat → Nat → Int
  | 0, _ => 0
  | n + 1, S => if S = 0 then 0 else fvC w (gvF w P n) S (loB S P) (chA (fvC w (gvF w P n) S (loB S P)) S (loB S P) P)
def gvC (w : Nat → Nat → Int) (P : Nat) (S : Nat) : Int := gvF w P (S + 1) S
theorem fv_cong {w : Nat → Nat → Int} {A B : Nat → Int} {S p : Nat} (hS : S < 64) (hp : p < 6) (hb : S.testBit p = true) (h : ∀ T, T < S → A T = B T) : (fvC w A S p none = fvC w B S p none) ∧ ∀ q, p < q → S.testBit q = true → fvC w A S p (some q) = fvC w B S p (some q) := by
  have h1 := rmv_sm S hS p hp hb
  refine ⟨h _ h1, fun q hpq hq => ?_⟩
  have hq6 : q < 6 := bit_lt (P := 6) hS hq
  have h2 : (rmv S p).testBit q = true := by rw [rmv_bit, hq, Bool.true_and]; exact decide_eq_true (by omega)
  have h3 := rmv_sm (rmv S p) (by omega) q hq6 h2
  show w p q + A _ = w p q + B _
  rw [h _ (by omega)]
theorem chA_cong {F G : Option Nat → Int} {S p : Nat} (h0 : F none = G none) (h : ∀ q, p < q → S.testBit q = true → F (some q) = G (some q)) : ∀ n, chA F S p n = chA G S p n := by
  intro n
  induction n with
  | zero => rfl
  | succ n ih =>
    have hF : F (chA F S p n) = G (chA F S p n) := by
      cases hc : chA F S p n with
      | none => exact h0
      | some q => have := (chA_spec (F := F) (S := S) (p := p) n).1 q hc; exact h q this.1 this.2.2
    show (if (p < n ∧ S.testBit n = true) ∧ F (chA F S p n) < F (some n) then some n else chA F S p n) = if (p < n ∧ S.testBit n = true) ∧ G (chA G S p n) < G (some n) then some n else chA G S p n
    rw [← ih, ← hF]
    by_cases e : p < n ∧ S.testBit n = true
    · rw [h n e.1 e.2]
    · rw [if_neg (fun q => e q.1), if_neg (fun q => e q.1)]
theorem fvch_cong {w : Nat → Nat → Int} {A B : Nat → Int} {S p n : Nat} (hS : S < 64) (hp : p < 6) (hb : S.testBit p = true) (h : ∀ T, T < S → A T = B T) : fvC w A S p (chA (fvC w A S p) S p n) = fvC w B S p (chA (fvC w B S p) S p n) := by
  obtain ⟨h1, h2⟩ := fv_cong (w := w) hS hp hb h
  rw [← chA_cong h1 h2 n]
  cases hc : chA (fvC w A S p) S p n with
  | none => exact h1
  | some q => have := (chA_spec (F := fvC w A S p) (S := S) (p := p) n).1 q hc; exact h2 q this.1 this.2.2
theorem gvF_st {w : Nat → Nat → Int} {P : Nat} (hP : P ≤ 6) : ∀ n S, S < 2 ^ P → S < n → gvF w P n S = gvC w P S := by
  have h64 : 2 ^ P ≤ 2 ^ 6 := Nat.pow_le_pow_right (by decide) hP
  intro n
  induction n using Nat.strongRecOn with
  | _ n ih =>
    intro S hS hn
    unfold gvC
    cases n with
    | zero => omega
    | succ n =>
      show (if S = 0 then 0 else _) = (if S = 0 then 0 else _)
      by_cases h0 : S = 0
      · rw [if_pos h0, if_pos h0]
      · rw [if_neg h0, if_neg h0]
        obtain ⟨p1, p2⟩ := loB_zero hS h0
        apply fvch_cong (by omega) (by omega) p2
        intro T hT
        rcases Nat.lt_or_ge S n with e | e
        · rw [ih n (by omega) T (by omega) (by omega), ih S (by omega) T (by omega) hT]
        · rw [show S = n by omega]
theorem gvC_0 {w : Nat → Nat → Int} {P : Nat} : gvC w P 0 = 0 := by unfold gvC gvF; rw [if_pos rfl]
theorem gvC_s {w : Nat → Nat → Int} {P : Nat} (hP : P ≤ 6) : ∀ S, S ≠ 0 → S < 2 ^ P → gvC w P S = fvC w (gvC w P) S (loB S P) (chA (fvC w (gvC w P) S (loB S P)) S (loB S P) P) := by
  have h64 : 2 ^ P ≤ 2 ^ 6 := Nat.pow_le_pow_right (by decide) hP
  intro S h0 hS
  obtain ⟨p1, p2⟩ := loB_zero hS h0
  show (if S = 0 then 0 else _) = _
  rw [if_neg h0]
  apply fvch_cong (by omega) (by omega) p2
  intro T hT
  exact gvF_st hP S T (by omega) hT
theorem gvC_le {w : Nat → Nat → Int} {P : Nat} (hP : P ≤ 6) (hw : ∀ a b, -11520 ≤ w a b ∧ w a b ≤ 11520) : ∀ S : Nat, S < 2 ^ P → -(11520 * (S : Int)) ≤ gvC w P S ∧ gvC w P S ≤ 11520 * (S : Int) := by
  have h64 : 2 ^ P ≤ 2 ^ 6 := Nat.pow_le_pow_right (by decide) hP
  intro S
  induction S using Nat.strongRecOn with
  | _ S ih =>
    intro hS
    by_cases h0 : S = 0
    · rw [h0, gvC_0]; omega
    · rw [gvC_s hP S h0 hS]
      obtain ⟨p1, p2⟩ := loB_zero hS h0
      have h1 := rmv_sm S (by omega) (loB S P) (by omega) p2
      cases hc : chA (fvC w (gvC w P) S (loB S P)) S (loB S P) P with
      | none =>
        show -(11520 * (S : Int)) ≤ gvC w P (rmv S (loB S P)) ∧ gvC w P (rmv S (loB S P)) ≤ _
        have := ih _ h1 (by omega)
        omega
      | some q =>
        have hq := (chA_spec (F := fvC w (gvC w P) S (loB S P)) (S := S) (p := loB S P) P).1 q hc
        have h2 : (rmv S (loB S P)).testBit q = true := by rw [rmv_bit, hq.2.2, Bool.true_and]; exact decide_eq_true (by omega)
        have h3 := rmv_sm (rmv S (loB S P)) (by omega) q (by omega) h2
        show -(11520 * (S : Int)) ≤ w (loB S P) q + gvC w P (rmv (rmv S (loB S P)) q) ∧ w (loB S P) q + gvC w P (rmv (rmv S (loB S P)) q) ≤ _
        have := ih _ (Nat.lt_trans h3 h1) (by omega)
        have := hw (loB S P) q
        omega
/-! ways as numbers to the base B, the first person highest -/
def cdD (B : Nat) (d : Nat → Nat) : Nat → Nat
  | 0 => 0
  | n + 1 => cdD B d n * B + d n
theorem cdD_lt {B : Nat} {d : Nat → Nat} : ∀ {n : Nat}, (∀ k, k < n → d k < B) → cdD B d n < B ^ n
  | 0, _ => Nat.one_pos
  | n + 1, h => by
    have h1 := cdD_lt (n := n) (fun k hk => h k (by omega))
    have h2 := h n (by omega)
    show cdD B d n * B + d n < B ^ (n + 1)
    have h3 := Nat.mul_le_mul_right B (show cdD B d n + 1 ≤ B ^ n from h1)
    rw [Nat.succ_mul] at h3
    rw [Nat.pow_succ]
    omega
theorem cdD_dig {B : Nat} {d : Nat → Nat} {q : Nat} : ∀ {n : Nat}, (∀ k, k < n → d k < B) → q < n → cdD B d n / B ^ (n - 1 - q) % B = d q
  | 0, _, h => absurd h (Nat.not_lt_zero q)
  | n + 1, h, hq => by
    have h2 := h n (by omega)
    rcases Nat.lt_or_ge q n with e | e
    · have h3 := cdD_dig (n := n) (fun k hk => h k (by omega)) e
      show (cdD B d n * B + d n) / B ^ (n + 1 - 1 - q) % B = d q
      rw [show n + 1 - 1 - q = 1 + (n - 1 - q) by omega, Nat.pow_add, Nat.pow_one, ← Nat.div_div_eq_div_mul]
      rw [show (cdD B d n * B + d n) / B = cdD B d n by
        rw [Nat.mul_comm, Nat.mul_add_div (by omega), Nat.div_eq_of_lt h2, Nat.add_zero]]
      exact h3
    · have e2 : q = n := by omega
      subst e2
      show (cdD B d q * B + d q) / B ^ (q + 1 - 1 - q) % B = d q
      rw [show q + 1 - 1 - q = 0 by omega, Nat.pow_zero, Nat.div_one, Nat.mul_comm, Nat.mul_add_mod, Nat.mod_eq_of_lt h2]
theorem cdD_of {B c : Nat} (hB : 0 < B) {P : Nat} (hc : c < B ^ P) : ∀ n, n ≤ P → cdD B (fun q => c / B ^ (P - 1 - q) % B) n = c / B ^ (P - n) := by
  intro n
  induction n with
  | zero => intro _; rw [Nat.sub_zero, Nat.div_eq_of_lt hc]; rfl
  | succ n ih =>
    intro hn
    show cdD B (fun q => c / B ^ (P - 1 - q) % B) n * B + c / B ^ (P - 1 - n) % B = _
    rw [ih (by omega), show P - n = (P - (n + 1)) + 1 by omega, Nat.pow_succ, ← Nat.div_div_eq_div_mul, show P - 1 - n = P - (n + 1) by omega, Nat.mul_comm]
    exact Nat.div_add_mod _ _
theorem cdD_lex {B : Nat} {d e : Nat → Nat} {k : Nat} (h1 : ∀ j, j < k → d j = e j) (h2 : d k < e k) (hd : ∀ j, d j < B) : ∀ n, k < n → cdD B d n < cdD B e n := by
  have h0 : ∀ m, m ≤ k → cdD B d m = cdD B e m := by
    intro m
    induction m with
    | zero => intro _; rfl
    | succ m ih =>
      intro hm
      show cdD B d m * B + d m = cdD B e m * B + e m
      rw [ih (by omega), h1 m (by omega)]
  intro n
  induction n with
  | zero => intro h; omega
  | succ n ih =>
    intro h
    show cdD B d n * B + d n < cdD B e n * B + e n
    rcases Nat.lt_or_ge k n with q | q
    · have h3 := ih q
      have h4 := Nat.mul_le_mul_right B (show cdD B d n + 1 ≤ cdD B e n from h3)
      rw [Nat.succ_mul] at h4
      have := hd n
      omega
    · rw [h0 n (by omega), show n = k by omega]
      omega
/-- the first greatest of those with p -/
def fgi (p : Nat → Bool) (f : Nat → Int) : Nat → Option Nat
  | 0 => none
  | n + 1 => if p n = true then (match fgi p f n with
    | none => some n
    | some i => if f i < f n then some n else some i) else fgi p f n
theorem fgi_s {p : Nat → Bool} {f : Nat → Int} {n : Nat} : fgi p f (n + 1) = if p n = true then (match fgi p f n with
    | none => some n
    | some i => if f i < f n then some n else some i) else fgi p f n := rfl
theorem fgi_spec {p : Nat → Bool} {f : Nat → Int} : ∀ n, (fgi p f n = none ∧ ∀ j, j < n → p j = false) ∨ ∃ c, fgi p f n = some c ∧ c < n ∧ p c = true ∧ (∀ j, j < n → p j = true → f j ≤ f c) ∧ ∀ j, j < c → p j = true → f j < f c := by
  intro n
  induction n with
  | zero => exact Or.inl ⟨rfl, fun j hj => absurd hj (Nat.not_lt_zero j)⟩
  | succ n ih =>
    rw [fgi_s]
    cases hp : p n
    · rw [if_neg (by decide)]
      rcases ih with ⟨h1, h2⟩ | ⟨c, h1, h2, h3, h4, h5⟩
      · refine Or.inl ⟨h1, fun j hj => ?_⟩
        rcases Nat.lt_or_ge j n with w | w
        · exact h2 j w
        · rw [show j = n by omega]; exact hp
      · refine Or.inr ⟨c, h1, by omega, h3, fun j hj hpj => ?_, h5⟩
        rcases Nat.lt_or_ge j n with w | w
        · exact h4 j w hpj
        · rw [show j = n by omega, hp] at hpj; cases hpj
    · rw [if_pos rfl]
      rcases ih with ⟨h1, h2⟩ | ⟨c, h1, h2, h3, h4, h5⟩
      · rw [h1]
        refine Or.inr ⟨n, rfl, by omega, hp, fun j hj hpj => ?_, fun j hj hpj => ?_⟩
        · rcases Nat.lt_or_ge j n with w | w
          · rw [h2 j w] at hpj; cases hpj
          · rw [show j = n by omega]; exact Int.le_refl _
        · rw [h2 j hj] at hpj; cases hpj
      · rw [h1]
        dsimp only
        by_cases hf : f c < f n
        · rw [if_pos hf]
          refine Or.inr ⟨n, rfl, by omega, hp, fun j hj hpj => ?_, fun j hj hpj => ?_⟩
          · rcases Nat.lt_or_ge j n with w | w
            · have := h4 j w hpj; omega
            · rw [show j = n by omega]; exact Int.le_refl _
          · have := h4 j hj hpj; omega
        · rw [if_neg hf]
          refine Or.inr ⟨c, rfl, by omega, h3, fun j hj hpj => ?_, h5⟩
          rcases Nat.lt_or_ge j n with w | w
          · exact h4 j w hpj
          · rw [show j = n by omega]; omega
def dgC (P c q : Nat) : Nat := c / (P + 1) ^ (P - 1 - q) % (P + 1)
/-- the way that a number tells -/
def muC (P c q : Nat) : Option Nat := if dgC P c q = 0 then none else some (dgC P c q - 1)
theorem co_mu {P c q : Nat} : co (muC P c q) = dgC P c q := by
  unfold muC
  split
  · rename_i h; rw [h]; rfl
  · show dgC P c q - 1 + 1 = _; omega
def gdC (P c : Nat) : Bool := allb (fun p => match muC P c p with
  | none => true
  | some o => decide (o ≠ p ∧ muC P c o = some p)) P
theorem full_bit (P p : Nat) : (2 ^ P - 1).testBit p = decide (p < P) := Nat.testBit_two_pow_sub_one P p
theorem gdC_iff {P c : Nat} : gdC P c = true ↔ vlC (2 ^ P - 1) (muC P c) := by
  unfold gdC
  rw [allb_iff]
  constructor
  · intro h p hp q hq
    rw [full_bit, decide_eq_true_eq] at hp
    have h1 := h p hp
    rw [hq] at h1
    dsimp only at h1
    have h2 := of_decide_eq_true h1
    refine ⟨?_, h2.1, h2.2⟩
    rw [full_bit, decide_eq_true_eq]
    unfold muC at hq
    split at hq
    · cases hq
    · cases hq
      have : dgC P c p < P + 1 := Nat.mod_lt _ (by omega)
      omega
  · intro h p hp
    cases hm : muC P c p with
    | none => rfl
    | some o =>
      have := h p (by rw [full_bit]; exact decide_eq_true hp) o hm
      exact decide_eq_true this.2
def smC (w : Nat → Nat → Int) (P c : Nat) : Int := suC (cbC w (muC P c)) (2 ^ P - 1) P
/-- the best way of all, as both sides find it -/
theorem cpl_best {w : Nat → Nat → Int} {P : Nat} (hP : P ≤ 6) : ∃ c, fgi (gdC P) (smC w P) ((P + 1) ^ P) = some c ∧ smC w P c = gvC w P (2 ^ P - 1) ∧ ∀ a, a < P → muC P c a = mtC w (gvC w P) P P (2 ^ P - 1) a := by
  have hpos : 0 < 2 ^ P := Nat.two_pow_pos P
  obtain ⟨⟨v1, v2, v3⟩, v4⟩ := cpl_main (gvC_0 (w := w) (P := P)) (gvC_s hP) P (2 ^ P - 1) (Nat.le_refl _) (by omega) (fun j _ => by omega)
  generalize hM : mtC w (gvC w P) P P (2 ^ P - 1) = M at v1 v2 v3 v4 ⊢
  have hlt : ∀ q, co (M q) < P + 1 := by
    intro q
    by_cases hq : q < P
    · cases hm : M q with
      | none => show 0 < P + 1; omega
      | some o =>
        have h1 := (v1 q (by rw [full_bit]; exact decide_eq_true hq) o hm).1
        rw [full_bit, decide_eq_true_eq] at h1
        show o + 1 < P + 1; omega
    · rw [v3 q (by rw [full_bit]; exact decide_eq_false hq)]
      show 0 < P + 1; omega
  have hdg : ∀ q, q < P → dgC P (cdD (P + 1) (fun q => co (M q)) P) q = co (M q) := fun q hq => cdD_dig (d := fun q => co (M q)) (fun k _ => hlt k) hq
  have hmu : ∀ q, q < P → muC P (cdD (P + 1) (fun q => co (M q)) P) q = M q := fun q hq => co_inj (by rw [co_mu, hdg q hq])
  have hcM : cdD (P + 1) (fun q => co (M q)) P < (P + 1) ^ P := cdD_lt (fun k _ => hlt k)
  generalize hcd : cdD (P + 1) (fun q => co (M q)) P = cM at hdg hmu hcM
  have hgd : gdC P cM = true := gdC_iff.mpr fun p hp q hq => by
    have hp2 := hp
    rw [full_bit, decide_eq_true_eq] at hp2
    rw [hmu p hp2] at hq
    obtain ⟨a1, a2, a3⟩ := v1 p hp q hq
    refine ⟨a1, a2, ?_⟩
    rw [full_bit, decide_eq_true_eq] at a1
    rw [hmu q a1]; exact a3
  have hsm : smC w P cM = gvC w P (2 ^ P - 1) := by
    rw [← v2]
    unfold smC
    exact suC_cong fun k hk _ => by unfold cbC; rw [hmu k hk]
  rcases fgi_spec (p := gdC P) (f := smC w P) ((P + 1) ^ P) with ⟨h1, h2⟩ | ⟨c, h1, h2, h3, h4, h5⟩
  · rw [h2 cM hcM] at hgd; cases hgd
  · obtain ⟨u1, u2⟩ := v4 (muC P c) (gdC_iff.mp h3)
    have u3 := h4 cM hcM hgd
    have u5 : smC w P c ≤ gvC w P (2 ^ P - 1) := u1
    have u4 : smC w P c = gvC w P (2 ^ P - 1) := by omega
    refine ⟨c, h1, u4, fun a ha => ?_⟩
    rcases u2 u4 with z | ⟨k, z1, z2, z3⟩
    · exact (z a (by rw [full_bit]; exact decide_eq_true ha)).symm
    · exfalso
      rw [full_bit, decide_eq_true_eq] at z1
      have hlex := cdD_lex (B := P + 1) (d := fun q => co (M q)) (e := fun q => dgC P c q) (k := k) (fun j hj => by
        show co (M j) = dgC P c j
        rw [z2 j hj (by rw [full_bit]; exact decide_eq_true (by omega)), co_mu]) (by show co (M k) < dgC P c k; rw [← co_mu]; exact z3) hlt P z1
      have hc2 := cdD_of (B := P + 1) (c := c) (by omega) h2 P (Nat.le_refl _)
      rw [Nat.sub_self, Nat.pow_zero, Nat.div_one] at hc2
      have e3 : cdD (P + 1) (fun q => dgC P c q) P = c := hc2
      rw [hcd, e3] at hlex
      have := h5 cM hlex hgd
      omega
