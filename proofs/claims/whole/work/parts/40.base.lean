/-! THE VIEW: plan (W D hours persons X Y L S T), state (H A F R purses treasury seed); what class and reference hold of it -/
abbrev Vp : Type := Nat × Nat × Nat × Nat × (Nat → Int) × (Nat → Int) × (Nat → Nat) × (Nat → Nat) × (Nat → Nat)
abbrev Vs : Type := (Nat → Nat) × (Nat → Nat) × (Nat → Nat) × Nat × (Nat → Int32) × Int32 × Int32
abbrev Vg : Type := Vp × Vs
def gW (g : Vg) : Nat := g.1.1
def gD (g : Vg) : Nat := g.1.2.1
def gN (g : Vg) : Nat := g.1.2.2.1
def gP (g : Vg) : Nat := g.1.2.2.2.1
def gX (g : Vg) : Nat → Int := g.1.2.2.2.2.1
def gY (g : Vg) : Nat → Int := g.1.2.2.2.2.2.1
def gL (g : Vg) : Nat → Nat := g.1.2.2.2.2.2.2.1
def gS (g : Vg) : Nat → Nat := g.1.2.2.2.2.2.2.2.1
def gT (g : Vg) : Nat → Nat := g.1.2.2.2.2.2.2.2.2
def gH (g : Vg) : Nat → Nat := g.2.1
def gA (g : Vg) : Nat → Nat := g.2.2.1
def gF (g : Vg) : Nat → Nat := g.2.2.2.1
def gR (g : Vg) : Nat := g.2.2.2.2.1
def gU (g : Vg) : Nat → Int32 := g.2.2.2.2.2.1
def gM (g : Vg) : Int32 := g.2.2.2.2.2.2.1
def gE (g : Vg) : Int32 := g.2.2.2.2.2.2.2
def fset {α : Type} (f : Nat → α) (k : Nat) (x : α) : Nat → α := fun j => if j = k then x else f j
theorem fset_eq {α : Type} {f : Nat → α} {k : Nat} {x : α} : fset f k x k = x := if_pos rfl
theorem fset_ne {α : Type} {f : Nat → α} {k j : Nat} {x : α} (h : j ≠ k) : fset f k x j = f j := if_neg h
def setH (g : Vg) (f : Nat → Nat) : Vg := (g.1, f, g.2.2)
def setA (g : Vg) (f : Nat → Nat) : Vg := (g.1, g.2.1, f, g.2.2.2)
def setF (g : Vg) (f : Nat → Nat) : Vg := (g.1, g.2.1, g.2.2.1, f, g.2.2.2.2)
def setR (g : Vg) (r : Nat) : Vg := (g.1, g.2.1, g.2.2.1, g.2.2.2.1, r, g.2.2.2.2.2)
def setU (g : Vg) (f : Nat → Int32) : Vg := (g.1, g.2.1, g.2.2.1, g.2.2.2.1, g.2.2.2.2.1, f, g.2.2.2.2.2.2)
def setM (g : Vg) (x : Int32) : Vg := (g.1, g.2.1, g.2.2.1, g.2.2.2.1, g.2.2.2.2.1, g.2.2.2.2.2.1, x, g.2.2.2.2.2.2.2)
def setE (g : Vg) (x : Int32) : Vg := (g.1, g.2.1, g.2.2.1, g.2.2.2.1, g.2.2.2.2.1, g.2.2.2.2.2.1, g.2.2.2.2.2.2.1, x)
def oI : Option Nat → Int32
  | none => -1
  | some n => nI n
def BG (g : Vg) : Prop :=
  (gW g * gD g ≤ 48 ∧ gW g ≤ 9 ∧ gD g ≤ 9 ∧ gN g ≤ 6 ∧ gP g ≤ 6 ∧ gR g ≤ 1 ∧ ((gW g = 0 ∧ gD g = 0 ∧ gN g = 0 ∧ gP g = 0) ∨ (1 ≤ gW g ∧ 1 ≤ gD g))) ∧
  (∀ h, h < gN g → (-1 ≤ gX g h ∧ gX g h ≤ 1) ∧ (-1 ≤ gY g h ∧ gY g h ≤ 1) ∧ gL g h ≤ 3 ∧ gS g h ≤ 20) ∧
  (∀ p, p < gP g → 1 ≤ gT g p ∧ gT g p ≤ 9 ∧ gF g p ≤ 1 ∧ gA g p < gW g * gD g) ∧
  (∀ c, c < 48 → gH g c ≤ 9)
/-- what the class holds: plan and state -/
def RX (g : Vg) (I : Nat → Nat → Int32) : Prop :=
  (I 18 0 = nI (gW g) ∧ I 18 1 = nI (gD g) ∧ I 18 2 = nI (gW g * gD g) ∧ I 18 3 = nI (gN g) ∧ I 18 4 = nI (gP g)) ∧
  (∀ h c, h < gN g → c < gW g * gD g → I (20 + h) c = oI (nb (gW g) (gD g) (gX g h) (gY g h) c)) ∧
  (∀ h, h < gN g → I 26 h = nI (gL g h) ∧ I 27 h = nI (gS g h)) ∧
  (∀ p, p < gP g → I 29 p = nI (gT g p)) ∧
  (∀ c, c < gW g * gD g → I 31 c = nI (c % gW g) ∧ I 32 c = nI (c / gW g)) ∧
  (∀ c, c < 48 → I 37 c = nI (gH g c)) ∧
  (∀ p, p < gP g → I 34 p = nI (gA g p) ∧ I 35 p = nI (gF g p) ∧ I 36 p = gU g p) ∧
  I 33 4 = gM g ∧ I 33 5 = nI (gR g) ∧ I 33 6 = gE g
/-- what the reference holds of it -/
def RM (g : Vg) (I : Nat → Nat → Int32) : Prop :=
  (I 81 0 = nI (gW g) ∧ I 81 1 = nI (gD g) ∧ I 81 3 = nI (gN g) ∧ I 81 8 = nI (gP g)) ∧
  (∀ h, h < gN g → (I 83 h).toInt = gX g h ∧ (I 84 h).toInt = gY g h ∧ I 85 h = nI (gL g h) ∧ I 86 h = nI (gS g h)) ∧
  (∀ p, p < gP g → I 88 p = nI (gT g p)) ∧
  (∀ c, c < 48 → I 82 c = nI (gH g c)) ∧
  (∀ p, p < gP g → I 87 p = nI (gA g p) ∧ I 89 p = nI (gF g p) ∧ I 90 p = gU g p) ∧
  I 81 14 = gM g ∧ I 81 15 = nI (gR g) ∧ I 81 16 = gE g
section
variable {g : Vg} {I : Nat → Nat → Int32}
theorem rx_W (R : RX g I) : I 18 0 = nI (gW g) := R.1.1
theorem rx_D (R : RX g I) : I 18 1 = nI (gD g) := R.1.2.1
theorem rx_C (R : RX g I) : I 18 2 = nI (gW g * gD g) := R.1.2.2.1
theorem rx_N (R : RX g I) : I 18 3 = nI (gN g) := R.1.2.2.2.1
theorem rx_P (R : RX g I) : I 18 4 = nI (gP g) := R.1.2.2.2.2
theorem rx_o (R : RX g I) {h c : Nat} (h1 : h < gN g) (h2 : c < gW g * gD g) : I (20 + h) c = oI (nb (gW g) (gD g) (gX g h) (gY g h) c) := R.2.1 h c h1 h2
theorem rx_L (R : RX g I) {h : Nat} (h1 : h < gN g) : I 26 h = nI (gL g h) := (R.2.2.1 h h1).1
theorem rx_S (R : RX g I) {h : Nat} (h1 : h < gN g) : I 27 h = nI (gS g h) := (R.2.2.1 h h1).2
theorem rx_T (R : RX g I) {p : Nat} (h1 : p < gP g) : I 29 p = nI (gT g p) := R.2.2.2.1 p h1
theorem rx_x (R : RX g I) {c : Nat} (h1 : c < gW g * gD g) : I 31 c = nI (c % gW g) := (R.2.2.2.2.1 c h1).1
theorem rx_y (R : RX g I) {c : Nat} (h1 : c < gW g * gD g) : I 32 c = nI (c / gW g) := (R.2.2.2.2.1 c h1).2
theorem rx_H (R : RX g I) {c : Nat} (h1 : c < 48) : I 37 c = nI (gH g c) := R.2.2.2.2.2.1 c h1
theorem rx_A (R : RX g I) {p : Nat} (h1 : p < gP g) : I 34 p = nI (gA g p) := (R.2.2.2.2.2.2.1 p h1).1
theorem rx_F (R : RX g I) {p : Nat} (h1 : p < gP g) : I 35 p = nI (gF g p) := (R.2.2.2.2.2.2.1 p h1).2.1
theorem rx_U (R : RX g I) {p : Nat} (h1 : p < gP g) : I 36 p = gU g p := (R.2.2.2.2.2.2.1 p h1).2.2
theorem rx_M (R : RX g I) : I 33 4 = gM g := R.2.2.2.2.2.2.2.1
theorem rx_R (R : RX g I) : I 33 5 = nI (gR g) := R.2.2.2.2.2.2.2.2.1
theorem rx_E (R : RX g I) : I 33 6 = gE g := R.2.2.2.2.2.2.2.2.2
theorem rm_W (R : RM g I) : I 81 0 = nI (gW g) := R.1.1
theorem rm_D (R : RM g I) : I 81 1 = nI (gD g) := R.1.2.1
theorem rm_N (R : RM g I) : I 81 3 = nI (gN g) := R.1.2.2.1
theorem rm_P (R : RM g I) : I 81 8 = nI (gP g) := R.1.2.2.2
theorem rm_X (R : RM g I) {h : Nat} (h1 : h < gN g) : (I 83 h).toInt = gX g h := (R.2.1 h h1).1
theorem rm_Y (R : RM g I) {h : Nat} (h1 : h < gN g) : (I 84 h).toInt = gY g h := (R.2.1 h h1).2.1
theorem rm_L (R : RM g I) {h : Nat} (h1 : h < gN g) : I 85 h = nI (gL g h) := (R.2.1 h h1).2.2.1
theorem rm_S (R : RM g I) {h : Nat} (h1 : h < gN g) : I 86 h = nI (gS g h) := (R.2.1 h h1).2.2.2
theorem rm_T (R : RM g I) {p : Nat} (h1 : p < gP g) : I 88 p = nI (gT g p) := R.2.2.1 p h1
theorem rm_H (R : RM g I) {c : Nat} (h1 : c < 48) : I 82 c = nI (gH g c) := R.2.2.2.1 c h1
theorem rm_A (R : RM g I) {p : Nat} (h1 : p < gP g) : I 87 p = nI (gA g p) := (R.2.2.2.2.1 p h1).1
theorem rm_F (R : RM g I) {p : Nat} (h1 : p < gP g) : I 89 p = nI (gF g p) := (R.2.2.2.2.1 p h1).2.1
theorem rm_U (R : RM g I) {p : Nat} (h1 : p < gP g) : I 90 p = gU g p := (R.2.2.2.2.1 p h1).2.2
theorem rm_M (R : RM g I) : I 81 14 = gM g := R.2.2.2.2.2.1
theorem rm_R (R : RM g I) : I 81 15 = nI (gR g) := R.2.2.2.2.2.2.1
theorem rm_E (R : RM g I) : I 81 16 = gE g := R.2.2.2.2.2.2.2
theorem bg_1 (B : BG g) : gW g * gD g ≤ 48 ∧ gW g ≤ 9 ∧ gD g ≤ 9 ∧ gN g ≤ 6 ∧ gP g ≤ 6 ∧ gR g ≤ 1 ∧ ((gW g = 0 ∧ gD g = 0 ∧ gN g = 0 ∧ gP g = 0) ∨ (1 ≤ gW g ∧ 1 ≤ gD g)) := B.1
theorem bg_h (B : BG g) {h : Nat} (h1 : h < gN g) : (-1 ≤ gX g h ∧ gX g h ≤ 1) ∧ (-1 ≤ gY g h ∧ gY g h ≤ 1) ∧ gL g h ≤ 3 ∧ gS g h ≤ 20 := B.2.1 h h1
theorem bg_p (B : BG g) {p : Nat} (h1 : p < gP g) : 1 ≤ gT g p ∧ gT g p ≤ 9 ∧ gF g p ≤ 1 ∧ gA g p < gW g * gD g := B.2.2.1 p h1
theorem bg_H (B : BG g) {c : Nat} (h1 : c < 48) : gH g c ≤ 9 := B.2.2.2 c h1
end
/-! numbers for simp -/
theorem n_in {α : Type} {c N : Nat} {A B : α} (h : c < N ∧ N < 2147483648) : (if ¬ (nI c < 0 ∨ N ≤ (nI c).toNatClampNeg) then A else B) = A := if_pos (i_in h.1 h.2)
theorem n_lt0 {n : Nat} (h : n < 2147483648) : nI n < 0 ↔ False := ⟨fun q => nI_pos (by omega) q, fun q => q.elim⟩
theorem n_le0 {n : Nat} (h : n < 2147483648) : nI n ≤ 0 ↔ n = 0 := by rw [show (0 : Int32) = nI 0 from rfl, nI_leI (by omega) (by omega)]; omega
theorem n_eq0 {n : Nat} (h : n < 2147483648) : nI n = 0 ↔ n = 0 := by rw [show (0 : Int32) = nI 0 from rfl, nI_eq (by omega) (by omega)]
theorem n_eq1 {n : Nat} (h : n < 2147483648) : nI n = 1 ↔ n = 1 := by rw [show (1 : Int32) = nI 1 from rfl, nI_eq (by omega) (by omega)]
theorem n_gt0 {n : Nat} (h : n < 2147483648) : 0 < nI n ↔ 0 < n := by rw [show (0 : Int32) = nI 0 from rfl, nI_ltI (by omega) (by omega)]
theorem n_em {n : Nat} (h : n < 2147483648) : nI n = -1 ↔ False := ⟨fun q => by have := congrArg Int32.toInt q; rw [nI_toInt (by omega), show ((-1 : Int32)).toInt = -1 from rfl] at this; omega, fun q => q.elim⟩
theorem n_me {n : Nat} (h : n < 2147483648) : -1 = nI n ↔ False := ⟨fun q => (n_em h).mp q.symm, fun q => q.elim⟩
theorem n_lm {n : Nat} (h : n < 2147483648) : nI n ≤ -1 ↔ False := by rw [i_leN, nI_toInt (by omega), show ((-1 : Int32)).toInt = -1 from rfl]; exact ⟨fun q => absurd q (by omega), fun q => q.elim⟩
theorem n_mlt {n : Nat} (h : n < 2147483648) : -1 < nI n ↔ True := by rw [i_ltN, nI_toInt (by omega), show ((-1 : Int32)).toInt = -1 from rfl]; exact ⟨fun _ => trivial, fun _ => by omega⟩
theorem am_b1 (b : Bool) : am_b b = 1 ↔ b = true := by cases b <;> decide
theorem up_eq {α : Type} {I : Nat → Nat → α} {r k : Nat} {x : α} : am_up2 I r k x r k = x := if_pos ⟨rfl, rfl⟩
theorem up_ne {α : Type} {I : Nat → Nat → α} {r k r' k' : Nat} {x : α} (h : r' ≠ r ∨ k' ≠ k) : am_up2 I r k x r' k' = I r' k' := if_neg (fun q => by omega)
/-! loops -/
theorem lp {α : Type} {f : Nat → α} {N : Nat} (hs : ∀ k, k < N → f k = f (k + 1)) : f 0 = f N := by
  induction N with
  | zero => rfl
  | succ n ih => rw [ih (fun k hk => hs k (by omega)), hs n (by omega)]
theorem lpa {α : Type} {f : Nat → α} {a N : Nat} (ha : a ≤ N) (hs : ∀ k, a ≤ k → k < N → f k = f (k + 1)) : f a = f N := by
  have h := lp (f := fun k => f (a + k)) (N := N - a) (fun k hk => hs (a + k) (by omega) (by omega))
  rw [show f a = f (a + 0) from rfl, h, show a + (N - a) = N by omega]
theorem lpx {α : Type} {f : Nat → α} {N : Nat} (P : Nat → Prop) (hs : ∀ k, k < N → ¬ P k → f k = f (k + 1)) : (∃ k, k < N ∧ P k ∧ (∀ j, j < k → ¬ P j) ∧ f 0 = f k) ∨ ((∀ j, j < N → ¬ P j) ∧ f 0 = f N) := by
  induction N with
  | zero => exact Or.inr ⟨fun j hj => absurd hj (Nat.not_lt_zero j), rfl⟩
  | succ n ih =>
    rcases ih (fun k hk => hs k (by omega)) with ⟨k, h1, h2, h3, h4⟩ | ⟨h1, h2⟩
    · exact Or.inl ⟨k, by omega, h2, h3, h4⟩
    · by_cases hp : P n
      · exact Or.inl ⟨n, by omega, hp, h1, h2⟩
      · refine Or.inr ⟨fun j hj => ?_, by rw [h2, hs n (by omega) hp]⟩
        rcases Nat.lt_or_ge j n with q | q
        · exact h1 j q
        · rw [show j = n by omega]; exact hp
/-- a stretch of a row written -/
def wri {α : Type} (I : Nat → Nat → α) (r n : Nat) (f : Nat → α) : Nat → Nat → α := fun k j => if k = r ∧ j < n then f j else I k j
theorem wr_0 {α : Type} {I : Nat → Nat → α} {r : Nat} {f : Nat → α} : wri I r 0 f = I := by
  funext k j; exact if_neg (fun q => absurd q.2 (Nat.not_lt_zero j))
theorem wr_s {α : Type} {I : Nat → Nat → α} {r n : Nat} {f : Nat → α} : am_up2 (wri I r n f) r n (f n) = wri I r (n + 1) f := by
  funext k j
  unfold am_up2 wri
  by_cases h1 : k = r
  · by_cases h2 : j = n
    · rw [if_pos ⟨h1, h2⟩, if_pos ⟨h1, by omega⟩, h2]
    · rw [if_neg (fun q => h2 q.2)]
      by_cases h3 : j < n
      · rw [if_pos ⟨h1, h3⟩, if_pos ⟨h1, by omega⟩]
      · rw [if_neg (fun q => h3 q.2), if_neg (fun q => by omega)]
  · rw [if_neg (fun q => h1 q.1), if_neg (fun q => h1 q.1), if_neg (fun q => h1 q.1)]
theorem wr_in {α : Type} {I : Nat → Nat → α} {r n j : Nat} {f : Nat → α} (h : j < n) : wri I r n f r j = f j := if_pos ⟨rfl, h⟩
theorem wr_out {α : Type} {I : Nat → Nat → α} {r n k j : Nat} {f : Nat → α} (h : k ≠ r ∨ n ≤ j) : wri I r n f k j = I k j := if_neg (fun q => by omega)
theorem wr_up {α : Type} {I : Nat → Nat → α} {r n r' k' : Nat} {f : Nat → α} {x : α} (h : r' ≠ r ∨ n ≤ k') : am_up2 (wri I r n f) r' k' x = wri (am_up2 I r' k' x) r n f := by
  funext k j
  show (if k = r' ∧ j = k' then x else if k = r ∧ j < n then f j else I k j) = if k = r ∧ j < n then f j else if k = r' ∧ j = k' then x else I k j
  by_cases h1 : k = r' ∧ j = k'
  · rw [if_pos h1, if_neg (fun q => by omega), if_pos h1]
  · rw [if_neg h1, if_neg h1]
