/-! WALKS, in whole numbers -/
def doE (r : Vr) (p c h : Nat) : Bool := allb (fun k => !(decide (eP r k = p) && decide (eH r k = h)) || decide (eC r k = c)) (eN r)
def okW (g : Vg) (r : Vr) (p c h : Nat) : Bool := decide (gH g c = 0) && doE r p c h
def txW (g : Vg) (p h c : Nat) : Nat := owN g p c (tl g p) none h * gS g h
def stpW (g : Vg) (c t : Nat) : Bool := decide ((c % gW g ≤ t % gW g + 1 ∧ t % gW g ≤ c % gW g + 1) ∧ c / gW g ≤ t / gW g + 1 ∧ t / gW g ≤ c / gW g + 1)
def isS {α : Type} : Option α → Bool
  | none => false
  | some _ => true
/-- the first of the cheapest cells around c, where R tells what is owed from there on -/
def bsW (g : Vg) (R : Nat → Option Nat) (c : Nat) : Option Nat := fls (fun t => stpW g c t && isS (R t)) (fun t => (R t).getD 0) (gW g * gD g)
/-- what is owed from hour N - j on, standing on c then -/
def rW (g : Vg) (r : Vr) (p : Nat) : Nat → Nat → Option Nat
  | 0, _ => some 0
  | j + 1, c => if okW g r p c (gN g - (j + 1)) = true then (match bsW g (rW g r p j) c with
    | none => none
    | some t => some (txW g p (gN g - (j + 1)) c + (rW g r p j t).getD 0)) else none
theorem rW_s {g : Vg} {r : Vr} {p j c : Nat} : rW g r p (j + 1) c = if okW g r p c (gN g - (j + 1)) = true then (match bsW g (rW g r p j) c with
    | none => none
    | some t => some (txW g p (gN g - (j + 1)) c + (rW g r p j t).getD 0)) else none := rfl
theorem txW_le {g : Vg} (B : BG g) {p h c : Nat} (hh : h < gN g) : txW g p h c ≤ 960 := Nat.mul_le_mul owN_le (bg_h B hh).2.2.2
theorem rW_le {g : Vg} (B : BG g) {r : Vr} {p : Nat} : ∀ j c, j ≤ gN g → (rW g r p j c).getD 0 ≤ 960 * j := by
  intro j
  induction j with
  | zero => intro c _; exact Nat.le_refl _
  | succ j ih =>
    intro c hj
    rw [rW_s]
    split
    · cases hb : bsW g (rW g r p j) c with
      | none => exact Nat.zero_le _
      | some t =>
        have h1 := ih t (by omega)
        have h2 := txW_le B (p := p) (h := gN g - (j + 1)) (c := c) (by omega)
        show txW g p (gN g - (j + 1)) c + (rW g r p j t).getD 0 ≤ 960 * (j + 1)
        omega
    · exact Nat.zero_le _
theorem rW_le2 {g : Vg} (B : BG g) {r : Vr} {p j c v : Nat} (hj : j ≤ gN g) (h : rW g r p j c = some v) : v ≤ 5760 := by
  have h1 := rW_le B (r := r) (p := p) j c hj
  have b1 := bg_1 B
  rw [h] at h1
  have : v ≤ 960 * j := h1
  omega
theorem fls_min {P : Nat → Bool} {f : Nat → Nat} : ∀ {n i : Nat}, fls P f n = some i → (∀ j, j < n → P j = true → f i ≤ f j) ∧ ∀ j, j < i → P j = true → f i < f j
  | 0, i, h => by cases h
  | n + 1, i, h => by
    rw [fls_s] at h
    split at h
    · rename_i hP
      cases hf : fls P f n with
      | none =>
        rw [hf] at h; cases h
        have hno : ∀ j, j < n → P j = true → False := fun j hj hp => by
          obtain ⟨i, hi⟩ := fls_some (f := f) hp hj
          rw [hf] at hi; cases hi
        refine ⟨fun j hj hp => ?_, fun j hj hp => (hno j hj hp).elim⟩
        rcases Nat.lt_or_ge j n with w | w
        · exact (hno j w hp).elim
        · rw [show j = n by omega]; exact Nat.le_refl _
      | some k =>
        rw [hf] at h
        dsimp only at h
        have ih := fls_min hf
        have hk := fls_lt hf
        split at h
        · rename_i hlt
          cases h
          refine ⟨fun j hj hp => ?_, fun j hj hp => ?_⟩
          · rcases Nat.lt_or_ge j n with w | w
            · have := ih.1 j w hp; omega
            · rw [show j = n by omega]; exact Nat.le_refl _
          · have := ih.1 j hj hp; omega
        · rename_i hlt
          cases h
          refine ⟨fun j hj hp => ?_, ih.2⟩
          rcases Nat.lt_or_ge j n with w | w
          · exact ih.1 j w hp
          · rw [show j = n by omega]; omega
    · rename_i hP
      have ih := fls_min h
      refine ⟨fun j hj hp => ?_, ih.2⟩
      rcases Nat.lt_or_ge j n with w | w
      · exact ih.1 j w hp
      · rw [show j = n by omega] at hp; exact absurd hp hP
/-- one more, behind all the others -/
theorem fls_ext {Q Q' : Nat → Bool} {f : Nat → Nat} {t : Nat} (h1 : Q t = false) (h2 : Q' t = true) : ∀ n, (∀ k, k < n → k ≠ t → Q' k = Q k) → (∀ k, k < n → Q k = true → k < t) → t < n → fls Q' f n = match fls Q f n with
    | none => some t
    | some i => if f t < f i then some t else some i := by
  intro n
  induction n with
  | zero => intro _ _ h; omega
  | succ n ih =>
    intro hq hl ht
    by_cases e : n = t
    · rw [fls_s, fls_s, e, h1, h2, if_pos rfl, if_neg (by decide)]
      rw [fls_cong (P := Q') (Q := Q) (f := f) (g := f) (fun k hk => hq k (by omega) (by omega)) (fun k _ _ => rfl)]
      rfl
    · have hQn : Q n = false := by
        cases hx : Q n
        · rfl
        · have := hl n (by omega) hx; omega
      rw [fls_s, fls_s, hQn, hq n (by omega) e, hQn, if_neg (by decide), if_neg (by decide)]
      exact ih (fun k hk => hq k (by omega)) (fun k hk => hl k (by omega)) (by omega)
theorem fls_none {P : Nat → Bool} {f : Nat → Nat} : ∀ {n : Nat}, (∀ k, k < n → P k = false) → fls P f n = none
  | 0, _ => rfl
  | n + 1, h => by rw [fls_s, h n (by omega), if_neg (by decide)]; exact fls_none (fun k hk => h k (by omega))
/-- in what place a cell around c comes -/
def rkW (g : Vg) (c t : Nat) : Nat := (t / gW g + 1 - c / gW g) * 3 + (t % gW g + 1 - c % gW g)
def QW (g : Vg) (R : Nat → Option Nat) (c k : Nat) (t : Nat) : Bool := (stpW g c t && isS (R t)) && decide (rkW g c t < k)
theorem stp_rk {g : Vg} {c t : Nat} (h : stpW g c t = true) : ∃ i j, i < 3 ∧ j < 3 ∧ rkW g c t = 3 * i + j ∧ t / gW g + 1 = c / gW g + i ∧ t % gW g + 1 = c % gW g + j := by
  have h := of_decide_eq_true h
  refine ⟨t / gW g + 1 - c / gW g, t % gW g + 1 - c % gW g, by omega, by omega, ?_, by omega, by omega⟩
  unfold rkW
  omega
theorem cel_eq {g : Vg} {a b : Nat} (h1 : a % gW g = b % gW g) (h2 : a / gW g = b / gW g) : a = b := by
  rw [← Nat.div_add_mod a (gW g), ← Nat.div_add_mod b (gW g), h1, h2]
theorem cel_lt {g : Vg} {a b : Nat} (hW : 0 < gW g) (h : a / gW g < b / gW g ∨ (a / gW g = b / gW g ∧ a % gW g < b % gW g)) : a < b := by
  have e1 := Nat.div_add_mod a (gW g)
  have e2 := Nat.div_add_mod b (gW g)
  have m1 := Nat.mod_lt a hW
  rcases h with h | ⟨h1, h2⟩
  · have h3 := Nat.mul_le_mul_left (gW g) (show a / gW g + 1 ≤ b / gW g from h)
    rw [Nat.mul_add, Nat.mul_one] at h3
    omega
  · rw [h1] at e1; omega
/-- one step of the way around c -/
theorem QW_step {g : Vg} {R : Nat → Option Nat} {c i j : Nat} {f : Nat → Nat} (hW : 0 < gW g) (hi : i < 3) (hj : j < 3) : fls (QW g R c (3 * i + j + 1)) f (gW g * gD g) =
    if (1 ≤ c % gW g + j ∧ c % gW g + j ≤ gW g) ∧ 1 ≤ c / gW g + i ∧ c / gW g + i ≤ gD g then
      (if isS (R (cix g (c % gW g + j - 1) (c / gW g + i - 1))) = true then (match fls (QW g R c (3 * i + j)) f (gW g * gD g) with
        | none => some (cix g (c % gW g + j - 1) (c / gW g + i - 1))
        | some y => if f (cix g (c % gW g + j - 1) (c / gW g + i - 1)) < f y then some (cix g (c % gW g + j - 1) (c / gW g + i - 1)) else some y) else fls (QW g R c (3 * i + j)) f (gW g * gD g))
    else fls (QW g R c (3 * i + j)) f (gW g * gD g) := by
  have same : (∀ t, t < gW g * gD g → (stpW g c t && isS (R t)) = true → rkW g c t = 3 * i + j → False) → fls (QW g R c (3 * i + j + 1)) f (gW g * gD g) = fls (QW g R c (3 * i + j)) f (gW g * gD g) := by
    intro hno
    refine fls_cong (fun t ht => ?_) (fun _ _ _ => rfl)
    unfold QW
    cases hx : stpW g c t && isS (R t)
    · rfl
    · rw [Bool.true_and, Bool.true_and]
      have hne : rkW g c t ≠ 3 * i + j := fun e => hno t ht hx e
      exact decide_eq_decide.mpr (by omega)
  by_cases hin : (1 ≤ c % gW g + j ∧ c % gW g + j ≤ gW g) ∧ 1 ≤ c / gW g + i ∧ c / gW g + i ≤ gD g
  · rw [if_pos hin]
    have ha : c % gW g + j - 1 < gW g := by omega
    have hb : c / gW g + i - 1 < gD g := by omega
    have ht := cix_lt ha hb
    have hm := cix_mod (b := c / gW g + i - 1) ha
    have hd := cix_div (b := c / gW g + i - 1) ha
    generalize cix g (c % gW g + j - 1) (c / gW g + i - 1) = t at ht hm hd ⊢
    have hst : stpW g c t = true := decide_eq_true (by omega)
    have hrk : rkW g c t = 3 * i + j := by unfold rkW; omega
    have huni : ∀ u, stpW g c u = true → rkW g c u = 3 * i + j → u = t := fun u hu hru => by
      obtain ⟨i', j', a1, a2, a3, a4, a5⟩ := stp_rk hu
      exact cel_eq (g := g) (by omega) (by omega)
    by_cases hs : isS (R t) = true
    · rw [if_pos hs]
      refine fls_ext ?_ ?_ _ (fun k hk hne => ?_) (fun k hk hq => ?_) ht
      · unfold QW; rw [hrk, decide_eq_false (by omega), Bool.and_false]
      · unfold QW; rw [hst, hs, hrk, decide_eq_true (by omega)]; rfl
      · unfold QW
        cases hx : stpW g c k && isS (R k)
        · rfl
        · rw [Bool.true_and, Bool.true_and]
          have hn2 : rkW g c k ≠ 3 * i + j := fun e => hne (huni k (Bool.and_eq_true_iff.mp hx).1 e)
          exact decide_eq_decide.mpr (by omega)
      · unfold QW at hq
        rw [Bool.and_eq_true_iff, Bool.and_eq_true_iff, decide_eq_true_eq] at hq
        obtain ⟨i', j', a1, a2, a3, a4, a5⟩ := stp_rk hq.1.1
        exact cel_lt hW (by omega)
    · rw [if_neg hs]
      refine same fun u hu hq hru => ?_
      rw [Bool.and_eq_true_iff] at hq
      have := huni u hq.1 hru
      rw [this] at hq
      exact hs hq.2
  · rw [if_neg hin]
    refine same fun u hu hq hru => hin ?_
    rw [Bool.and_eq_true_iff] at hq
    obtain ⟨i', j', a1, a2, a3, a4, a5⟩ := stp_rk hq.1
    have hm := Nat.mod_lt u hW
    have hd : u / gW g < gD g := Nat.div_lt_of_lt_mul hu
    have e1 : i' = i := by omega
    have e2 : j' = j := by omega
    subst e1 e2
    generalize u / gW g = uy at a4 hd
    generalize u % gW g = ux at a5 hm
    generalize c / gW g = cy at a4 ⊢
    generalize c % gW g = cx at a5 ⊢
    omega
theorem QW_0 {g : Vg} {R : Nat → Option Nat} {c : Nat} {f : Nat → Nat} {n : Nat} : fls (QW g R c 0) f n = none := fls_none fun t _ => by
  unfold QW; rw [decide_eq_false (by omega), Bool.and_false]
theorem QW_9 {g : Vg} {R : Nat → Option Nat} {c : Nat} : fls (QW g R c 9) (fun t => (R t).getD 0) (gW g * gD g) = bsW g R c := by
  unfold bsW
  refine fls_cong (fun t ht => ?_) (fun _ _ _ => rfl)
  unfold QW
  cases hx : stpW g c t && isS (R t)
  · rfl
  · rw [Bool.true_and]
    obtain ⟨i', j', a1, a2, a3, a4, a5⟩ := stp_rk (Bool.and_eq_true_iff.mp hx).1
    exact decide_eq_true (by omega)
/-- there is a way on if one may stay -/
theorem stp_self {g : Vg} {c : Nat} : stpW g c c = true := decide_eq_true (by omega)
theorem bsW_0 {g : Vg} {r : Vr} {p c : Nat} (hc : c < gW g * gD g) : ∃ t, bsW g (rW g r p 0) c = some t := fls_some (k := c) (by rw [stp_self]; rfl) hc
/-- where the walk is -/
def ptW (g : Vg) (r : Vr) (p : Nat) : Nat → Nat
  | 0 => gA g p
  | h + 1 => (bsW g (rW g r p (gN g - (h + 1))) (ptW g r p h)).getD 0
theorem ptW_ok {g : Vg} {r : Vr} {p : Nat} (hA : gA g p < gW g * gD g) {v : Nat} (hv : rW g r p (gN g) (gA g p) = some v) : ∀ h, h < gN g → ptW g r p h < gW g * gD g ∧ isS (rW g r p (gN g - h) (ptW g r p h)) = true := by
  intro h
  induction h with
  | zero => intro _; refine ⟨hA, ?_⟩; rw [Nat.sub_zero]; show isS (rW g r p (gN g) (gA g p)) = true; rw [hv]; rfl
  | succ h ih =>
    intro hh
    obtain ⟨h1, h2⟩ := ih (by omega)
    rw [show gN g - h = (gN g - (h + 1)) + 1 by omega, rW_s] at h2
    split at h2
    · cases hb : bsW g (rW g r p (gN g - (h + 1))) (ptW g r p h) with
      | none => rw [hb] at h2; cases h2
      | some t =>
        have h3 := fls_lt hb
        have h4 := Bool.and_eq_true_iff.mp h3.2
        show (bsW g (rW g r p (gN g - (h + 1))) (ptW g r p h)).getD 0 < _ ∧ isS (rW g r p (gN g - (h + 1)) ((bsW g (rW g r p (gN g - (h + 1))) (ptW g r p h)).getD 0)) = true
        rw [hb]
        exact ⟨h3.1, h4.2⟩
    · cases h2
