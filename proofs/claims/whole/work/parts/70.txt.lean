/-! TEXTS: runs of bytes, numbers, words -/
def skf (p : Nat → Bool) : Nat → Nat → Nat
  | 0, k => k
  | f + 1, k => if p k = true then skf p f (k + 1) else k
def sk (p : Nat → Bool) (n k : Nat) : Nat := skf p (n - k) k
theorem skf_s (p : Nat → Bool) : ∀ f k, k ≤ skf p f k ∧ skf p f k ≤ k + f ∧ (∀ j, k ≤ j → j < skf p f k → p j = true) ∧ (skf p f k < k + f → p (skf p f k) = false)
  | 0, k => ⟨Nat.le_refl k, Nat.le_refl k, fun j h1 h2 => absurd h2 (Nat.not_lt.mpr h1), fun h => absurd h (Nat.lt_irrefl k)⟩
  | f + 1, k => by
    show k ≤ (if p k = true then skf p f (k + 1) else k) ∧ (if p k = true then skf p f (k + 1) else k) ≤ k + (f + 1) ∧ (∀ j, k ≤ j → j < (if p k = true then skf p f (k + 1) else k) → p j = true) ∧ ((if p k = true then skf p f (k + 1) else k) < k + (f + 1) → p (if p k = true then skf p f (k + 1) else k) = false)
    cases h : p k
    · rw [if_neg (by simp)]
      exact ⟨Nat.le_refl k, by omega, fun j h1 h2 => absurd h2 (Nat.not_lt.mpr h1), fun _ => h⟩
    · rw [if_pos rfl]
      obtain ⟨a1, a2, a3, a4⟩ := skf_s p f (k + 1)
      refine ⟨by omega, by omega, fun j h1 h2 => ?_, fun q => a4 (by omega)⟩
      by_cases e : j = k
      · rw [e]; exact h
      · exact a3 j (by omega) h2
section
variable {p : Nat → Bool} {n k : Nat}
theorem sk_ge : k ≤ sk p n k := (skf_s p _ k).1
theorem sk_le (h : k ≤ n) : sk p n k ≤ n := by have := (skf_s p (n - k) k).2.1; unfold sk; omega
theorem sk_all {j : Nat} (h1 : k ≤ j) (h2 : j < sk p n k) : p j = true := (skf_s p (n - k) k).2.2.1 j h1 h2
theorem sk_end (h0 : k ≤ n) (h : sk p n k < n) : p (sk p n k) = false := (skf_s p (n - k) k).2.2.2 (by unfold sk at h; omega)
theorem sk_id (h0 : k ≤ n) (h : k = n ∨ p k = false) : sk p n k = k := by
  have a1 := sk_ge (p := p) (n := n) (k := k)
  have a2 := sk_le (p := p) h0
  rcases Nat.lt_or_ge k (sk p n k) with q | q
  · have := sk_all (p := p) (n := n) (Nat.le_refl k) q
    rcases h with z | z
    · omega
    · rw [z] at this; cases this
  · omega
theorem sk_sk (h0 : k ≤ n) : sk p n (sk p n k) = sk p n k := by
  have a2 := sk_le (p := p) h0
  refine sk_id a2 ?_
  rcases Nat.lt_or_ge (sk p n k) n with q | q
  · exact Or.inr (sk_end h0 q)
  · exact Or.inl (by omega)
end
def blk (T : Nat → Nat) (k : Nat) : Bool := decide (T k = 32)
def ltr (T : Nat → Nat) (k : Nat) : Bool := decide (97 ≤ T k ∧ T k ≤ 122)
def fig (T : Nat → Nat) (k : Nat) : Bool := decide (48 ≤ T k ∧ T k ≤ 57)
def nv3 (T : Nat → Nat) (a : Nat) : Nat → Nat
  | 0 => 0
  | m + 1 => if m < 3 then 10 * nv3 T a m + T (a + m) - 48 else nv3 T a m
def nvm (T : Nat → Nat) (a : Nat) : Nat → Nat
  | 0 => 0
  | m + 1 => if 10000 < nvm T a m then nvm T a m else 10 * nvm T a m + T (a + m) - 48
theorem nv3_s (T : Nat → Nat) (a m : Nat) : nv3 T a (m + 1) = if m < 3 then 10 * nv3 T a m + T (a + m) - 48 else nv3 T a m := rfl
theorem nvm_s (T : Nat → Nat) (a m : Nat) : nvm T a (m + 1) = if 10000 < nvm T a m then nvm T a m else 10 * nvm T a m + T (a + m) - 48 := rfl
theorem nv3_lt {T : Nat → Nat} {a : Nat} : ∀ m, (∀ j, j < m → 48 ≤ T (a + j) ∧ T (a + j) ≤ 57) → nv3 T a m < 10 ^ (if m < 3 then m else 3)
  | 0, _ => Nat.one_pos
  | m + 1, h => by
    have ih := nv3_lt m (fun j hj => h j (by omega))
    have t := h m (by omega)
    rw [nv3_s]
    by_cases q : m < 3
    · rw [if_pos q] at ih ⊢
      have : m = 0 ∨ m = 1 ∨ m = 2 := by omega
      rcases this with e | e | e <;> subst e <;> simp at ih t ⊢ <;> omega
    · rw [if_neg q] at ih ⊢
      rw [if_neg (by omega)]; exact ih
theorem nv3_le {T : Nat → Nat} {a m : Nat} (h : ∀ j, j < m → 48 ≤ T (a + j) ∧ T (a + j) ≤ 57) : nv3 T a m < 1000 := by
  have := nv3_lt m h
  by_cases q : m < 3
  · rw [if_pos q] at this
    have : m = 0 ∨ m = 1 ∨ m = 2 := by omega
    rcases this with e | e | e <;> subst e <;> simp at * <;> omega
  · rw [if_neg q] at this; exact this
theorem nvm_le {T : Nat → Nat} {a : Nat} : ∀ m, (∀ j, j < m → 48 ≤ T (a + j) ∧ T (a + j) ≤ 57) → nvm T a m ≤ 100009
  | 0, _ => Nat.zero_le _
  | m + 1, h => by
    have ih := nvm_le m (fun j hj => h j (by omega))
    have t := h m (by omega)
    rw [nvm_s]
    split <;> omega
theorem nvm_3 {T : Nat → Nat} {a : Nat} : ∀ m, m ≤ 3 → (∀ j, j < m → 48 ≤ T (a + j) ∧ T (a + j) ≤ 57) → nvm T a m = nv3 T a m
  | 0, _, _ => rfl
  | m + 1, h3, h => by
    have ih := nvm_3 m (by omega) (fun j hj => h j (by omega))
    have l := nv3_le (T := T) (a := a) (m := m) (fun j hj => h j (by omega))
    rw [nvm_s, nv3_s, ih, if_pos (show m < 3 by omega), if_neg (by omega)]
/-- where a number begins, where it ends, what it is, its fault -/
def nQ (T : Nat → Nat) (n k : Nat) : Nat := sk (blk T) n k
def nK (T : Nat → Nat) (n k : Nat) : Nat := sk (fig T) n (nQ T n k)
def nL (T : Nat → Nat) (n k : Nat) : Nat := nK T n k - nQ T n k
def nV (T : Nat → Nat) (n k : Nat) : Nat := nv3 T (nQ T n k) (nL T n k)
def nF (T : Nat → Nat) (n k lo hi : Nat) : Nat := if nK T n k = nQ T n k then 1 else if 3 < nL T n k ∨ nV T n k < lo ∨ hi < nV T n k then 2 else 0
section
variable {T : Nat → Nat} {n k : Nat}
theorem nQ_ge : k ≤ nQ T n k := sk_ge
theorem nQ_le (h : k ≤ n) : nQ T n k ≤ n := sk_le h
theorem nK_ge : nQ T n k ≤ nK T n k := sk_ge
theorem nK_le (h : k ≤ n) : nK T n k ≤ n := sk_le (nQ_le h)
theorem n_fig {j : Nat} (hj : j < nL T n k) : 48 ≤ T (nQ T n k + j) ∧ T (nQ T n k + j) ≤ 57 := by
  have h : nQ T n k + j < nK T n k := by unfold nL at hj; omega
  exact of_decide_eq_true (sk_all (p := fig T) (n := n) (k := nQ T n k) (Nat.le_add_right _ _) h)
theorem nV_lt : nV T n k < 1000 := nv3_le (fun j hj => n_fig hj)
theorem nF_le {lo hi : Nat} : nF T n k lo hi ≤ 2 := by unfold nF; split <;> (try split) <;> omega
theorem nF_1 {lo hi : Nat} (h : nK T n k = nQ T n k) : nF T n k lo hi = 1 := if_pos h
theorem nF_0 {lo hi : Nat} (h : nF T n k lo hi = 0) : nQ T n k < nK T n k ∧ nL T n k ≤ 3 ∧ lo ≤ nV T n k ∧ nV T n k ≤ hi := by
  have := nK_ge (T := T) (n := n) (k := k)
  unfold nF at h
  split at h
  · omega
  · split at h
    · omega
    · omega
end
/-- the words -/
def wds : List (List Nat) := [[103, 114, 111, 117, 110, 100], [104, 111, 117, 115, 101], [115, 117, 110], [112, 101, 114, 115, 111, 110], [103, 114, 101, 121]]
def wln (x : Nat) : Nat := (wds.getD x []).length
def wch (x i : Nat) : Nat := (wds.getD x []).getD i 0
def isw (T : Nat → Nat) (a e x : Nat) : Bool := decide (e - a = wln x) && allb (fun i => decide (T (a + i) = wch x i)) (wln x)
def cdn (T : Nat → Nat) (a : Nat) : Nat → Nat
  | 0 => 0
  | m + 1 => if 10000000000000 < cdn T a m then 20000000000000 else 27 * cdn T a m + T (a + m) - 96
def rc : List Nat → Nat
  | [] => 0
  | t :: l => 27 * rc l + (t - 96)
def cdw (x : Nat) : Nat := rc (wds.getD x []).reverse
theorem cdn_s (T : Nat → Nat) (a m : Nat) : cdn T a (m + 1) = if 10000000000000 < cdn T a m then 20000000000000 else 27 * cdn T a m + T (a + m) - 96 := rfl
theorem cdn_le {T : Nat → Nat} {a : Nat} : ∀ m, (∀ j, j < m → 97 ≤ T (a + j) ∧ T (a + j) ≤ 122) → cdn T a m ≤ 270000000000026
  | 0, _ => Nat.zero_le _
  | m + 1, h => by
    have t := h m (by omega)
    rw [cdn_s]
    split <;> omega
theorem cd_p {T : Nat → Nat} {a m c d : Nat} (hT : ∀ j, j < m → 97 ≤ T (a + j) ∧ T (a + j) ≤ 122) (h1 : 1 ≤ d) (h2 : d ≤ 26) (h3 : 27 * c + d < 10000000000000) : cdn T a m = 27 * c + d ↔ ∃ m', m = m' + 1 ∧ cdn T a m' = c ∧ T (a + m') = 96 + d := by
  constructor
  · intro h
    cases m with
    | zero => have h0 : 0 = 27 * c + d := h; omega
    | succ m =>
      have t := hT m (by omega)
      rw [cdn_s] at h
      refine ⟨m, rfl, ?_, ?_⟩
      · split at h <;> omega
      · split at h <;> omega
  · rintro ⟨m', rfl, e1, e2⟩
    rw [cdn_s, e1, if_neg (by omega), e2]; omega
theorem cd_0 {T : Nat → Nat} {a m : Nat} (hT : ∀ j, j < m → 97 ≤ T (a + j) ∧ T (a + j) ≤ 122) (h : cdn T a m = 0) : m = 0 := by
  cases m with
  | zero => rfl
  | succ m =>
    have t := hT m (by omega)
    rw [cdn_s] at h
    split at h <;> omega
theorem rc_lt : ∀ (l : List Nat), (∀ t, t ∈ l → 97 ≤ t ∧ t ≤ 122) → rc l < 27 ^ l.length
  | [], _ => Nat.one_pos
  | t :: l, h => by
    have ih := rc_lt l (fun t ht => h t (List.mem_cons_of_mem _ ht))
    have := h t List.mem_cons_self
    show 27 * rc l + (t - 96) < 27 ^ (l.length + 1)
    rw [Nat.pow_succ]; omega
theorem cd_w {T : Nat → Nat} {a : Nat} : ∀ (l : List Nat) (m : Nat), (∀ t, t ∈ l → 97 ≤ t ∧ t ≤ 122) → (∀ j, j < m → 97 ≤ T (a + j) ∧ T (a + j) ≤ 122) → l.length ≤ 6 → (cdn T a m = rc l ↔ m = l.length ∧ ∀ i, i < l.length → T (a + i) = l.getD (l.length - 1 - i) 0)
  | [], m, _, hT, _ => by
    constructor
    · intro h; exact ⟨cd_0 hT h, fun i hi => absurd hi (Nat.not_lt_zero i)⟩
    · rintro ⟨h, _⟩; rw [show m = 0 from h]; rfl
  | t :: l, m, hl, hT, h6 => by
    have h6' : l.length + 1 ≤ 6 := h6
    have ht := hl t List.mem_cons_self
    have hl' : ∀ t, t ∈ l → 97 ≤ t ∧ t ≤ 122 := fun t ht => hl t (List.mem_cons_of_mem _ ht)
    have hr := rc_lt l hl'
    have hp : 27 ^ l.length ≤ 27 ^ 5 := Nat.pow_le_pow_right (by omega) (by omega)
    show cdn T a m = 27 * rc l + (t - 96) ↔ m = l.length + 1 ∧ ∀ i, i < l.length + 1 → T (a + i) = (t :: l).getD (l.length + 1 - 1 - i) 0
    rw [cd_p hT (by omega) (by omega) (by omega)]
    constructor
    · rintro ⟨m', rfl, e1, e2⟩
      obtain ⟨rfl, e3⟩ := (cd_w l m' hl' (fun j hj => hT j (by omega)) (by omega)).mp e1
      refine ⟨rfl, fun i hi => ?_⟩
      by_cases q : i = l.length
      · subst q
        rw [e2, show l.length + 1 - 1 - l.length = 0 by omega, List.getD_cons_zero]; omega
      · rw [e3 i (by omega), show l.length + 1 - 1 - i = (l.length - 1 - i) + 1 by omega, List.getD_cons_succ]
    · rintro ⟨rfl, e⟩
      refine ⟨l.length, rfl, (cd_w l l.length hl' (fun j hj => hT j (by omega)) (by omega)).mpr ⟨rfl, fun i hi => ?_⟩, ?_⟩
      · rw [e i (by omega), show l.length + 1 - 1 - i = (l.length - 1 - i) + 1 by omega, List.getD_cons_succ]
      · rw [e l.length (by omega), show l.length + 1 - 1 - l.length = 0 by omega, List.getD_cons_zero]; omega
theorem cd_isw {T : Nat → Nat} {a m : Nat} (hT : ∀ j, j < m → 97 ≤ T (a + j) ∧ T (a + j) ≤ 122) {x : Nat} (hx : x < 5) : cdn T a m = cdw x ↔ isw T a (a + m) x = true := by
  have h1 : ∀ x, x < 5 → ((∀ t, t ∈ (wds.getD x []).reverse → 97 ≤ t ∧ t ≤ 122) ∧ (wds.getD x []).reverse.length = wln x ∧ wln x ≤ 6 ∧ ∀ i, i < wln x → (wds.getD x []).reverse.getD (wln x - 1 - i) 0 = wch x i) := by decide +kernel
  obtain ⟨a1, a2, a3, a4⟩ := h1 x hx
  have h2 := cd_w (T := T) (a := a) _ m a1 hT (by omega)
  rw [a2] at h2
  unfold cdw
  rw [h2]
  unfold isw
  rw [Bool.and_eq_true_iff, decide_eq_true_iff, allb_iff, show a + m - a = m by omega]
  constructor
  · rintro ⟨e1, e2⟩
    exact ⟨e1, fun i hi => decide_eq_true ((e2 i hi).trans (a4 i hi))⟩
  · rintro ⟨e1, e2⟩
    exact ⟨e1, fun i hi => (of_decide_eq_true (e2 i hi)).trans (a4 i hi).symm⟩
/-- which word; 5: none of the five -/
def wdx (T : Nat → Nat) (a e : Nat) : Nat := if isw T a e 0 = true then 0 else if isw T a e 1 = true then 1 else if isw T a e 2 = true then 2 else if isw T a e 3 = true then 3 else if isw T a e 4 = true then 4 else 5
