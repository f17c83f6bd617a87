/-! NOTES, TEXT, IMAGES: what both sides hold of them -/
abbrev Vr : Type := (Nat × Int32 × Nat × (Nat → Nat)) × (Nat × (Nat → Nat) × (Nat → Nat) × (Nat → Nat)) × (Nat × (Nat → Nat) × (Nat → Nat)) × (Nat × (Nat → Nat) × (Nat → Nat) × (Nat → Nat)) × (Nat × Vs) × (Nat × Vs)
def qG (r : Vr) : Nat := r.1.1
def qF (r : Vr) : Int32 := r.1.2.1
def qN (r : Vr) : Nat := r.1.2.2.1
def qT (r : Vr) : Nat → Nat := r.1.2.2.2
def eN (r : Vr) : Nat := r.2.1.1
def eP (r : Vr) : Nat → Nat := r.2.1.2.1
def eC (r : Vr) : Nat → Nat := r.2.1.2.2.1
def eH (r : Vr) : Nat → Nat := r.2.1.2.2.2
def tN (r : Vr) : Nat := r.2.2.1.1
def tH (r : Vr) : Nat → Nat := r.2.2.1.2.1
def tS (r : Vr) : Nat → Nat := r.2.2.1.2.2
def bN (r : Vr) : Nat := r.2.2.2.1.1
def bP (r : Vr) : Nat → Nat := r.2.2.2.1.2.1
def bH (r : Vr) : Nat → Nat := r.2.2.2.1.2.2.1
def bS (r : Vr) : Nat → Nat := r.2.2.2.1.2.2.2
def k0 (r : Vr) : Nat := r.2.2.2.2.1.1
def i0 (r : Vr) : Vs := r.2.2.2.2.1.2
def k1 (r : Vr) : Nat := r.2.2.2.2.2.1
def i1 (r : Vr) : Vs := r.2.2.2.2.2.2
/-- a byte as the class holds it -/
def bI (b : Nat) : Int32 := if b < 128 then nI b else nI b - 256
/-- bounds: houses where nobody stands, the seed, notes, images -/
def BS (g : Vg) : Prop := BG g ∧ (∀ p, p < gP g → gH g (gA g p) = 0) ∧ ¬ gE g < 0
def BQ (g : Vg) (r : Vr) : Prop :=
  (qG r ≤ 100 ∧ qN r ≤ 500 ∧ eN r ≤ 10 ∧ tN r ≤ 10 ∧ bN r ≤ 30 ∧ k0 r ≤ 1 ∧ k1 r ≤ 1) ∧
  (∀ k, k < qN r → qT r k < 256) ∧
  (∀ k, k < eN r → eP r k < gP g ∧ eC r k < gW g * gD g ∧ eH r k < gN g) ∧
  (∀ k, k < tN r → tH r k < gN g ∧ tS r k ≤ 99) ∧
  (∀ k, k < bN r → bP r k < gP g ∧ bH r k < gN g ∧ bS r k ≤ 99) ∧
  (k0 r = 1 → BS (g.1, i0 r)) ∧ (k1 r = 1 → BS (g.1, i1 r))
/-- an image as the class holds it: row of fields o, rows a .. a + 3 -/
def XI (P : Nat) (s : Vs) (o : Nat) (I : Nat → Nat → Int32) : Prop :=
  (∀ p, p < P → I (o + 1) p = nI (s.2.1 p) ∧ I (o + 2) p = nI (s.2.2.1 p) ∧ I (o + 3) p = s.2.2.2.2.1 p) ∧ (∀ c, c < 48 → I (o + 4) c = nI (s.1 c)) ∧ I o 4 = s.2.2.2.2.2.1 ∧ I o 5 = nI s.2.2.2.1 ∧ I o 6 = s.2.2.2.2.2.2
def MI (P : Nat) (s : Vs) (o : Nat) (I : Nat → Nat → Int32) : Prop :=
  (∀ p, p < P → I 113 (o + p) = nI (s.2.1 p) ∧ I 113 (o + 6 + p) = nI (s.2.2.1 p) ∧ I 113 (o + 12 + p) = s.2.2.2.2.1 p) ∧ (∀ c, c < 48 → I 113 (o + 18 + c) = nI (s.1 c)) ∧ I 113 (o + 66) = s.2.2.2.2.2.1 ∧ I 113 (o + 67) = nI s.2.2.2.1 ∧ I 113 (o + 68) = s.2.2.2.2.2.2
def QX (g : Vg) (r : Vr) (I : Nat → Nat → Int32) : Prop :=
  (I 18 5 = nI (qG r) ∧ I 1 7 = qF r ∧ I 1 6 = nI (qN r) ∧ I 49 3 = nI (eN r) ∧ I 53 3 = nI (tN r) ∧ I 57 3 = nI (bN r) ∧ I 80 0 = 0) ∧
  (∀ k, k < qN r → I 2 k = bI (qT r k)) ∧
  (∀ k, k < eN r → I 50 k = nI (eP r k) ∧ I 51 k = nI (eC r k) ∧ I 52 k = nI (eH r k)) ∧
  (∀ k, k < tN r → I 55 k = nI (tH r k) ∧ I 56 k = nI (tS r k)) ∧
  (∀ k, k < bN r → I 58 k = nI (bP r k) ∧ I 59 k = nI (bH r k) ∧ I 60 k = nI (bS r k)) ∧
  (I 48 0 = nI (k0 r) ∧ I 48 1 = nI (k1 r)) ∧ (k0 r = 1 → XI (gP g) (i0 r) 38 I) ∧ (k1 r = 1 → XI (gP g) (i1 r) 43 I)
def QM (g : Vg) (r : Vr) (I : Nat → Nat → Int32) : Prop :=
  (I 81 13 = nI (qG r) ∧ I 81 19 = qF r ∧ I 81 18 = nI (qN r) ∧ I 81 43 = nI (eN r) ∧ I 81 52 = nI (tN r) ∧ I 81 55 = nI (bN r)) ∧
  (∀ k, k < qN r → I 91 k = nI (qT r k)) ∧
  (∀ k, k < eN r → I 100 k = nI (eP r k) ∧ I 101 k = nI (eC r k) ∧ I 102 k = nI (eH r k)) ∧
  (∀ k, k < tN r → I 108 k = nI (tH r k) ∧ I 109 k = nI (tS r k)) ∧
  (∀ k, k < bN r → I 111 k = nI (bP r k) ∧ I 110 k = nI (bH r k) ∧ I 112 k = nI (bS r k)) ∧
  (I 114 0 = nI (k0 r) ∧ I 114 1 = nI (k1 r)) ∧ (k0 r = 1 → MI (gP g) (i0 r) 0 I) ∧ (k1 r = 1 → MI (gP g) (i1 r) 70 I)
/-- what all this speaks of: the rest is scratch -/
def xS (r k : Nat) : Prop := 18 ≤ r ∧ r ≤ 37 ∧ (r ≠ 18 ∨ k ≠ 5)
def xQ (r k : Nat) : Prop := (r = 18 ∧ k = 5) ∨ (r < 3 ∧ (r ≠ 1 ∨ 6 ≤ k)) ∨ (38 ≤ r ∧ r ≤ 60) ∨ (r = 80 ∧ k = 0)
def mS (r k : Nat) : Prop := (82 ≤ r ∧ r ≤ 90) ∨ (r = 81 ∧ (k = 0 ∨ k = 1 ∨ k = 3 ∨ k = 8 ∨ k = 14 ∨ k = 15 ∨ k = 16))
def mQ (r k : Nat) : Prop := r = 91 ∨ (100 ≤ r ∧ r ≤ 102) ∨ (108 ≤ r ∧ r ≤ 114) ∨ (r = 81 ∧ (k = 13 ∨ k = 18 ∨ k = 19 ∨ k = 43 ∨ k = 52 ∨ k = 55))
def m4 (r k : Nat) : Prop := r = 81 ∧ (k = 39 ∨ k = 40)
def InX (g : Vg) (r : Vr) (I : Nat → Nat → Int32) (J : Nat → Nat → Int64) : Prop := RX g I ∧ QX g r I ∧ RD g J
def InM (g : Vg) (r : Vr) (I : Nat → Nat → Int32) : Prop := RM g I ∧ QM g r I ∧ m0 I
def Inv (I : Nat → Nat → Int32) (J : Nat → Nat → Int64) : Prop := ∃ g r, BS g ∧ BQ g r ∧ InX g r I J ∧ InM g r I
section
variable {g : Vg} {r : Vr} {I I' : Nat → Nat → Int32} {J J' : Nat → Nat → Int64}
theorem rx_cong (B : BG g) (e : ∀ r k, xS r k → I' r k = I r k) (R : RX g I) : RX g I' := by
  have b1 := bg_1 B
  exact ⟨⟨(e _ _ (by unfold xS; omega)).trans (rx_W R), (e _ _ (by unfold xS; omega)).trans (rx_D R), (e _ _ (by unfold xS; omega)).trans (rx_C R), (e _ _ (by unfold xS; omega)).trans (rx_N R), (e _ _ (by unfold xS; omega)).trans (rx_P R)⟩, fun h c h1 h2 => (e _ _ (by unfold xS; omega)).trans (rx_o R h1 h2), fun h h1 => ⟨(e _ _ (by unfold xS; omega)).trans (rx_L R h1), (e _ _ (by unfold xS; omega)).trans (rx_S R h1)⟩, fun p h1 => (e _ _ (by unfold xS; omega)).trans (rx_T R h1), fun c h1 => ⟨(e _ _ (by unfold xS; omega)).trans (rx_x R h1), (e _ _ (by unfold xS; omega)).trans (rx_y R h1)⟩, fun c h1 => (e _ _ (by unfold xS; omega)).trans (rx_H R h1), fun p h1 => ⟨(e _ _ (by unfold xS; omega)).trans (rx_A R h1), (e _ _ (by unfold xS; omega)).trans (rx_F R h1), (e _ _ (by unfold xS; omega)).trans (rx_U R h1)⟩, (e _ _ (by unfold xS; omega)).trans (rx_M R), (e _ _ (by unfold xS; omega)).trans (rx_R R), (e _ _ (by unfold xS; omega)).trans (rx_E R)⟩
theorem rm_cong (e : ∀ r k, mS r k → I' r k = I r k) (R : RM g I) : RM g I' :=
  ⟨⟨(e _ _ (by unfold mS; omega)).trans (rm_W R), (e _ _ (by unfold mS; omega)).trans (rm_D R), (e _ _ (by unfold mS; omega)).trans (rm_N R), (e _ _ (by unfold mS; omega)).trans (rm_P R)⟩, fun h h1 => ⟨(congrArg Int32.toInt (e _ _ (by unfold mS; omega))).trans (rm_X R h1), (congrArg Int32.toInt (e _ _ (by unfold mS; omega))).trans (rm_Y R h1), (e _ _ (by unfold mS; omega)).trans (rm_L R h1), (e _ _ (by unfold mS; omega)).trans (rm_S R h1)⟩, fun p h1 => (e _ _ (by unfold mS; omega)).trans (rm_T R h1), fun c h1 => (e _ _ (by unfold mS; omega)).trans (rm_H R h1), fun p h1 => ⟨(e _ _ (by unfold mS; omega)).trans (rm_A R h1), (e _ _ (by unfold mS; omega)).trans (rm_F R h1), (e _ _ (by unfold mS; omega)).trans (rm_U R h1)⟩, (e _ _ (by unfold mS; omega)).trans (rm_M R), (e _ _ (by unfold mS; omega)).trans (rm_R R), (e _ _ (by unfold mS; omega)).trans (rm_E R)⟩
theorem xi_cong {P o : Nat} {s : Vs} (ho : o = 38 ∨ o = 43) (e : ∀ r k, xQ r k → I' r k = I r k) (R : XI P s o I) : XI P s o I' :=
  ⟨fun p h1 => ⟨(e _ _ (by unfold xQ; omega)).trans (R.1 p h1).1, (e _ _ (by unfold xQ; omega)).trans (R.1 p h1).2.1, (e _ _ (by unfold xQ; omega)).trans (R.1 p h1).2.2⟩, fun c h1 => (e _ _ (by unfold xQ; omega)).trans (R.2.1 c h1), (e _ _ (by unfold xQ; omega)).trans R.2.2.1, (e _ _ (by unfold xQ; omega)).trans R.2.2.2.1, (e _ _ (by unfold xQ; omega)).trans R.2.2.2.2⟩
theorem mi_cong {P o : Nat} {s : Vs} (e : ∀ r k, mQ r k → I' r k = I r k) (R : MI P s o I) : MI P s o I' :=
  ⟨fun p h1 => ⟨(e _ _ (by unfold mQ; omega)).trans (R.1 p h1).1, (e _ _ (by unfold mQ; omega)).trans (R.1 p h1).2.1, (e _ _ (by unfold mQ; omega)).trans (R.1 p h1).2.2⟩, fun c h1 => (e _ _ (by unfold mQ; omega)).trans (R.2.1 c h1), (e _ _ (by unfold mQ; omega)).trans R.2.2.1, (e _ _ (by unfold mQ; omega)).trans R.2.2.2.1, (e _ _ (by unfold mQ; omega)).trans R.2.2.2.2⟩
theorem qx_cong (e : ∀ r k, xQ r k → I' r k = I r k) (R : QX g r I) : QX g r I' := by
  obtain ⟨⟨a1, a2, a3, a4, a5, a6, a7⟩, b1, b2, b3, b4, ⟨c1, c2⟩, d1, d2⟩ := R
  exact ⟨⟨(e _ _ (by unfold xQ; omega)).trans a1, (e _ _ (by unfold xQ; omega)).trans a2, (e _ _ (by unfold xQ; omega)).trans a3, (e _ _ (by unfold xQ; omega)).trans a4, (e _ _ (by unfold xQ; omega)).trans a5, (e _ _ (by unfold xQ; omega)).trans a6, (e _ _ (by unfold xQ; omega)).trans a7⟩, fun k h => (e _ _ (by unfold xQ; omega)).trans (b1 k h), fun k h => ⟨(e _ _ (by unfold xQ; omega)).trans (b2 k h).1, (e _ _ (by unfold xQ; omega)).trans (b2 k h).2.1, (e _ _ (by unfold xQ; omega)).trans (b2 k h).2.2⟩, fun k h => ⟨(e _ _ (by unfold xQ; omega)).trans (b3 k h).1, (e _ _ (by unfold xQ; omega)).trans (b3 k h).2⟩, fun k h => ⟨(e _ _ (by unfold xQ; omega)).trans (b4 k h).1, (e _ _ (by unfold xQ; omega)).trans (b4 k h).2.1, (e _ _ (by unfold xQ; omega)).trans (b4 k h).2.2⟩, ⟨(e _ _ (by unfold xQ; omega)).trans c1, (e _ _ (by unfold xQ; omega)).trans c2⟩, fun h => xi_cong (Or.inl rfl) e (d1 h), fun h => xi_cong (Or.inr rfl) e (d2 h)⟩
theorem qm_cong (e : ∀ r k, mQ r k → I' r k = I r k) (R : QM g r I) : QM g r I' := by
  obtain ⟨⟨a1, a2, a3, a4, a5, a6⟩, b1, b2, b3, b4, ⟨c1, c2⟩, d1, d2⟩ := R
  exact ⟨⟨(e _ _ (by unfold mQ; omega)).trans a1, (e _ _ (by unfold mQ; omega)).trans a2, (e _ _ (by unfold mQ; omega)).trans a3, (e _ _ (by unfold mQ; omega)).trans a4, (e _ _ (by unfold mQ; omega)).trans a5, (e _ _ (by unfold mQ; omega)).trans a6⟩, fun k h => (e _ _ (by unfold mQ; omega)).trans (b1 k h), fun k h => ⟨(e _ _ (by unfold mQ; omega)).trans (b2 k h).1, (e _ _ (by unfold mQ; omega)).trans (b2 k h).2.1, (e _ _ (by unfold mQ; omega)).trans (b2 k h).2.2⟩, fun k h => ⟨(e _ _ (by unfold mQ; omega)).trans (b3 k h).1, (e _ _ (by unfold mQ; omega)).trans (b3 k h).2⟩, fun k h => ⟨(e _ _ (by unfold mQ; omega)).trans (b4 k h).1, (e _ _ (by unfold mQ; omega)).trans (b4 k h).2.1, (e _ _ (by unfold mQ; omega)).trans (b4 k h).2.2⟩, ⟨(e _ _ (by unfold mQ; omega)).trans c1, (e _ _ (by unfold mQ; omega)).trans c2⟩, fun h => mi_cong e (d1 h), fun h => mi_cong e (d2 h)⟩
theorem m0_cong (e : ∀ r k, m4 r k → I' r k = I r k) (R : m0 I) : m0 I' := ⟨(e _ _ (by unfold m4; omega)).trans R.1, (e _ _ (by unfold m4; omega)).trans R.2⟩
theorem inx_cong (B : BG g) (e : ∀ r k, xS r k ∨ xQ r k → I' r k = I r k) (e2 : ∀ k, J' 62 k = J 62 k) (R : InX g r I J) : InX g r I' J' :=
  ⟨rx_cong B (fun r k h => e r k (Or.inl h)) R.1, qx_cong (fun r k h => e r k (Or.inr h)) R.2.1, fun h hh => (e2 h).trans (R.2.2 h hh)⟩
theorem inm_cong (e : ∀ r k, mS r k ∨ mQ r k ∨ m4 r k → I' r k = I r k) (R : InM g r I) : InM g r I' := ⟨rm_cong (fun r k h => e r k (Or.inl h)) R.1, qm_cong (fun r k h => e r k (Or.inr (Or.inl h))) R.2.1, m0_cong (fun r k h => e r k (Or.inr (Or.inr h))) R.2.2⟩
/-- the other side is let alone -/
theorem inm_x {I' : Nat → Nat → Int32} (e : ∀ r k, 81 ≤ r → I' r k = I r k) (R : InM g r I) : InM g r I' := inm_cong (fun r k h => e r k (by unfold mS mQ m4 at h; omega)) R
theorem inx_m {I' : Nat → Nat → Int32} (B : BG g) (e : ∀ r k, r < 81 → I' r k = I r k) (e2 : ∀ k, J' 62 k = J 62 k) (R : InX g r I J) : InX g r I' J' := inx_cong B (fun r k h => e r k (by unfold xS xQ at h; omega)) e2 R
theorem inm_up {q k : Nat} {z : Int32} (hq : q < 81) (R : InM g r I) : InM g r (am_up2 I q k z) := inm_x (fun _ _ h => up_ne (by omega)) R
theorem inx_up {q k : Nat} {z : Int32} (B : BG g) (hq : 81 ≤ q) (R : InX g r I J) : InX g r (am_up2 I q k z) J := inx_m B (fun _ _ h => up_ne (by omega)) (fun _ => rfl) R
theorem qx_up {q k : Nat} {z : Int32} (hq : ¬ xQ q k) (R : QX g r I) : QX g r (am_up2 I q k z) := qx_cong (fun a b h => up_ne (by
  by_cases e : a = q
  · by_cases e2 : b = k
    · subst e e2; exact absurd h hq
    · exact Or.inr e2
  · exact Or.inl e)) R
theorem qm_up {q k : Nat} {z : Int32} (hq : ¬ mQ q k) (R : QM g r I) : QM g r (am_up2 I q k z) := qm_cong (fun a b h => up_ne (by
  by_cases e : a = q
  · by_cases e2 : b = k
    · subst e e2; exact absurd h hq
    · exact Or.inr e2
  · exact Or.inl e)) R
theorem rx_up {q k : Nat} {z : Int32} (B : BG g) (hq : ¬ xS q k) (R : RX g I) : RX g (am_up2 I q k z) := rx_cong B (fun a b h => up_ne (by
  by_cases e : a = q
  · by_cases e2 : b = k
    · subst e e2; exact absurd h hq
    · exact Or.inr e2
  · exact Or.inl e)) R
theorem rm_up {q k : Nat} {z : Int32} (hq : ¬ mS q k) (R : RM g I) : RM g (am_up2 I q k z) := rm_cong (fun a b h => up_ne (by
  by_cases e : a = q
  · by_cases e2 : b = k
    · subst e e2; exact absurd h hq
    · exact Or.inr e2
  · exact Or.inl e)) R
theorem m0_up {q k : Nat} {z : Int32} (hq : ¬ m4 q k) (R : m0 I) : m0 (am_up2 I q k z) := m0_cong (fun a b h => up_ne (by
  by_cases e : a = q
  · by_cases e2 : b = k
    · subst e e2; exact absurd h hq
    · exact Or.inr e2
  · exact Or.inl e)) R
/-! the state changed -/
theorem dk_same {g g' : Vg} {h : Nat} (h1 : g.1 = g'.1) (h2 : g.2.1 = g'.2.1) : dk g h = dk g' h := by
  obtain ⟨p, H, s⟩ := g
  obtain ⟨p', H', s'⟩ := g'
  dsimp only at h1 h2
  subst h1 h2
  have : ∀ n, dkl (p, H, s) h n = dkl (p, H, s') h n := by
    intro n
    induction n with
    | zero => rfl
    | succ n ih =>
      show dkl (p, H, s) h n ||| _ = dkl (p, H, s') h n ||| _
      rw [ih]; rfl
  exact this _
theorem rx_setA {p c : Nat} (R : RX g I) (B : BG g) (hp : p < gP g) : RX (setA g (fset (gA g) p c)) (am_up2 I 34 p (nI c)) := by
  obtain ⟨⟨a1, a2, a3, a4, a5⟩, b, c1, d, f, h, k, l, m, n⟩ := R
  have b1 := bg_1 B
  have u : ∀ r k, r ≠ 34 → am_up2 I 34 p (nI c) r k = I r k := fun r k h => up_ne (Or.inl h)
  refine ⟨⟨by rw [u _ _ (by omega)]; exact a1, by rw [u _ _ (by omega)]; exact a2, by rw [u _ _ (by omega)]; exact a3, by rw [u _ _ (by omega)]; exact a4, by rw [u _ _ (by omega)]; exact a5⟩, fun h c h1 h2 => ?_, fun h h1 => ?_, fun p h1 => ?_, fun c h1 => ?_, fun c h1 => ?_, fun q h1 => ?_, by rw [u _ _ (by omega)]; exact l, by rw [u _ _ (by omega)]; exact m, by rw [u _ _ (by omega)]; exact n⟩
  · have h3 : h < gN g := h1
    rw [u _ _ (by omega)]; exact b h c h1 h2
  · rw [u _ _ (by omega), u _ _ (by omega)]; exact c1 h h1
  · rw [u _ _ (by omega)]; exact d p h1
  · rw [u _ _ (by omega), u _ _ (by omega)]; exact f c h1
  · rw [u _ _ (by omega)]; exact h c h1
  · rw [u 35 _ (by omega), u 36 _ (by omega)]
    refine ⟨?_, (k q h1).2⟩
    show am_up2 I 34 p (nI c) 34 q = nI (fset (gA g) p c q)
    by_cases e : q = p
    · rw [e, up_eq, fset_eq]
    · rw [up_ne (Or.inr e), fset_ne e]; exact (k q h1).1
theorem rm_setA {p c : Nat} (R : RM g I) (hp : p < gP g) : RM (setA g (fset (gA g) p c)) (am_up2 I 87 p (nI c)) := by
  obtain ⟨⟨a1, a2, a3, a4⟩, b, d, h, k, l, m, n⟩ := R
  have u : ∀ r k, r ≠ 87 → am_up2 I 87 p (nI c) r k = I r k := fun r k h => up_ne (Or.inl h)
  refine ⟨⟨by rw [u _ _ (by omega)]; exact a1, by rw [u _ _ (by omega)]; exact a2, by rw [u _ _ (by omega)]; exact a3, by rw [u _ _ (by omega)]; exact a4⟩, fun h h1 => ?_, fun p h1 => ?_, fun c h1 => ?_, fun q h1 => ?_, by rw [u _ _ (by omega)]; exact l, by rw [u _ _ (by omega)]; exact m, by rw [u _ _ (by omega)]; exact n⟩
  · rw [u _ _ (by omega), u _ _ (by omega), u _ _ (by omega), u _ _ (by omega)]; exact b h h1
  · rw [u _ _ (by omega)]; exact d p h1
  · rw [u _ _ (by omega)]; exact h c h1
  · rw [u 89 _ (by omega), u 90 _ (by omega)]
    refine ⟨?_, (k q h1).2⟩
    show am_up2 I 87 p (nI c) 87 q = nI (fset (gA g) p c q)
    by_cases e : q = p
    · rw [e, up_eq, fset_eq]
    · rw [up_ne (Or.inr e), fset_ne e]; exact (k q h1).1
theorem rx_setH {p c : Nat} (R : RX g I) (B : BG g) : RX (setH g (fset (gH g) p c)) (am_up2 I 37 p (nI c)) := by
  obtain ⟨⟨a1, a2, a3, a4, a5⟩, b, c1, d, f, h, k, l, m, n⟩ := R
  have b1 := bg_1 B
  have u : ∀ r k, r ≠ 37 → am_up2 I 37 p (nI c) r k = I r k := fun r k h => up_ne (Or.inl h)
  refine ⟨⟨by rw [u _ _ (by omega)]; exact a1, by rw [u _ _ (by omega)]; exact a2, by rw [u _ _ (by omega)]; exact a3, by rw [u _ _ (by omega)]; exact a4, by rw [u _ _ (by omega)]; exact a5⟩, fun h c h1 h2 => ?_, fun h h1 => ?_, fun p h1 => ?_, fun c h1 => ?_, fun q h1 => ?_, fun q h1 => ?_, by rw [u _ _ (by omega)]; exact l, by rw [u _ _ (by omega)]; exact m, by rw [u _ _ (by omega)]; exact n⟩
  · have h3 : h < gN g := h1
    rw [u _ _ (by omega)]; exact b h c h1 h2
  · rw [u _ _ (by omega), u _ _ (by omega)]; exact c1 h h1
  · rw [u _ _ (by omega)]; exact d p h1
  · rw [u _ _ (by omega), u _ _ (by omega)]; exact f c h1
  · show am_up2 I 37 p (nI c) 37 q = nI (fset (gH g) p c q)
    by_cases e : q = p
    · rw [e, up_eq, fset_eq]
    · rw [up_ne (Or.inr e), fset_ne e]; exact h q h1
  · rw [u _ _ (by omega), u _ _ (by omega), u _ _ (by omega)]; exact k q h1
theorem rm_setH {p c : Nat} (R : RM g I) : RM (setH g (fset (gH g) p c)) (am_up2 I 82 p (nI c)) := by
  obtain ⟨⟨a1, a2, a3, a4⟩, b, d, h, k, l, m, n⟩ := R
  have u : ∀ r k, r ≠ 82 → am_up2 I 82 p (nI c) r k = I r k := fun r k h => up_ne (Or.inl h)
  refine ⟨⟨by rw [u _ _ (by omega)]; exact a1, by rw [u _ _ (by omega)]; exact a2, by rw [u _ _ (by omega)]; exact a3, by rw [u _ _ (by omega)]; exact a4⟩, fun h h1 => ?_, fun p h1 => ?_, fun q h1 => ?_, fun q h1 => ?_, by rw [u _ _ (by omega)]; exact l, by rw [u _ _ (by omega)]; exact m, by rw [u _ _ (by omega)]; exact n⟩
  · rw [u _ _ (by omega), u _ _ (by omega), u _ _ (by omega), u _ _ (by omega)]; exact b h h1
  · rw [u _ _ (by omega)]; exact d p h1
  · show am_up2 I 82 p (nI c) 82 q = nI (fset (gH g) p c q)
    by_cases e : q = p
    · rw [e, up_eq, fset_eq]
    · rw [up_ne (Or.inr e), fset_ne e]; exact h q h1
  · rw [u _ _ (by omega), u _ _ (by omega), u _ _ (by omega)]; exact k q h1
theorem rx_setF {p c : Nat} (R : RX g I) (B : BG g) (hp : p < gP g) : RX (setF g (fset (gF g) p c)) (am_up2 I 35 p (nI c)) := by
  obtain ⟨⟨a1, a2, a3, a4, a5⟩, b, c1, d, f, h, k, l, m, n⟩ := R
  have b1 := bg_1 B
  have u : ∀ r k, r ≠ 35 → am_up2 I 35 p (nI c) r k = I r k := fun r k h => up_ne (Or.inl h)
  refine ⟨⟨by rw [u _ _ (by omega)]; exact a1, by rw [u _ _ (by omega)]; exact a2, by rw [u _ _ (by omega)]; exact a3, by rw [u _ _ (by omega)]; exact a4, by rw [u _ _ (by omega)]; exact a5⟩, fun h c h1 h2 => ?_, fun h h1 => ?_, fun p h1 => ?_, fun c h1 => ?_, fun c h1 => ?_, fun q h1 => ?_, by rw [u _ _ (by omega)]; exact l, by rw [u _ _ (by omega)]; exact m, by rw [u _ _ (by omega)]; exact n⟩
  · have h3 : h < gN g := h1
    rw [u _ _ (by omega)]; exact b h c h1 h2
  · rw [u _ _ (by omega), u _ _ (by omega)]; exact c1 h h1
  · rw [u _ _ (by omega)]; exact d p h1
  · rw [u _ _ (by omega), u _ _ (by omega)]; exact f c h1
  · rw [u _ _ (by omega)]; exact h c h1
  · rw [u _ _ (by omega), u 36 _ (by omega)]
    refine ⟨(k q h1).1, ?_, (k q h1).2.2⟩
    show am_up2 I 35 p (nI c) 35 q = nI (fset (gF g) p c q)
    by_cases e : q = p
    · rw [e, up_eq, fset_eq]
    · rw [up_ne (Or.inr e), fset_ne e]; exact (k q h1).2.1
theorem rm_setF {p c : Nat} (R : RM g I) (hp : p < gP g) : RM (setF g (fset (gF g) p c)) (am_up2 I 89 p (nI c)) := by
  obtain ⟨⟨a1, a2, a3, a4⟩, b, d, h, k, l, m, n⟩ := R
  have u : ∀ r k, r ≠ 89 → am_up2 I 89 p (nI c) r k = I r k := fun r k h => up_ne (Or.inl h)
  refine ⟨⟨by rw [u _ _ (by omega)]; exact a1, by rw [u _ _ (by omega)]; exact a2, by rw [u _ _ (by omega)]; exact a3, by rw [u _ _ (by omega)]; exact a4⟩, fun h h1 => ?_, fun p h1 => ?_, fun c h1 => ?_, fun q h1 => ?_, by rw [u _ _ (by omega)]; exact l, by rw [u _ _ (by omega)]; exact m, by rw [u _ _ (by omega)]; exact n⟩
  · rw [u _ _ (by omega), u _ _ (by omega), u _ _ (by omega), u _ _ (by omega)]; exact b h h1
  · rw [u _ _ (by omega)]; exact d p h1
  · rw [u _ _ (by omega)]; exact h c h1
  · rw [u _ _ (by omega), u 90 _ (by omega)]
    refine ⟨(k q h1).1, ?_, (k q h1).2.2⟩
    show am_up2 I 89 p (nI c) 89 q = nI (fset (gF g) p c q)
    by_cases e : q = p
    · rw [e, up_eq, fset_eq]
    · rw [up_ne (Or.inr e), fset_ne e]; exact (k q h1).2.1
theorem rx_33 {j : Nat} {z : Int32} (R : RX g I) (B : BG g) (g' : Vg) (hg : g' = g ∨ (g'.1 = g.1 ∧ g'.2.1 = g.2.1 ∧ gA g' = gA g ∧ gF g' = gF g ∧ gU g' = gU g)) (h4 : am_up2 I 33 j z 33 4 = gM g') (h5 : am_up2 I 33 j z 33 5 = nI (gR g')) (h6 : am_up2 I 33 j z 33 6 = gE g') : RX g' (am_up2 I 33 j z) := by
  obtain ⟨e1, e2, e3, e4, e5⟩ : g'.1 = g.1 ∧ g'.2.1 = g.2.1 ∧ gA g' = gA g ∧ gF g' = gF g ∧ gU g' = gU g := by
    rcases hg with q | q
    · subst q; exact ⟨rfl, rfl, rfl, rfl, rfl⟩
    · exact q
  have b1 := bg_1 B
  have u : ∀ r k, r ≠ 33 → am_up2 I 33 j z r k = I r k := fun r k h => up_ne (Or.inl h)
  have eH : gH g' = gH g := e2
  unfold RX
  unfold gW gD gN gP gX gY gL gS gT
  rw [e1, eH, e3, e4, e5]
  obtain ⟨⟨a1, a2, a3, a4, a5⟩, b, c1, d, f, h, k, l, m, n⟩ := R
  refine ⟨⟨by rw [u _ _ (by omega)]; exact a1, by rw [u _ _ (by omega)]; exact a2, by rw [u _ _ (by omega)]; exact a3, by rw [u _ _ (by omega)]; exact a4, by rw [u _ _ (by omega)]; exact a5⟩, fun h c h1 h2 => ?_, fun h h1 => ?_, fun p h1 => ?_, fun c h1 => ?_, fun c h1 => ?_, fun q h1 => ?_, h4, h5, h6⟩
  · have h3 : h < gN g := h1
    rw [u _ _ (by omega)]; exact b h c h1 h2
  · rw [u _ _ (by omega), u _ _ (by omega)]; exact c1 h h1
  · rw [u _ _ (by omega)]; exact d p h1
  · rw [u _ _ (by omega), u _ _ (by omega)]; exact f c h1
  · rw [u _ _ (by omega)]; exact h c h1
  · rw [u _ _ (by omega), u _ _ (by omega), u _ _ (by omega)]; exact k q h1
theorem rm_81 {j : Nat} {z : Int32} (R : RM g I) (g' : Vg) (hj : j = 14 ∨ j = 15 ∨ j = 16) (hg : g'.1 = g.1 ∧ g'.2.1 = g.2.1 ∧ gA g' = gA g ∧ gF g' = gF g ∧ gU g' = gU g) (h4 : am_up2 I 81 j z 81 14 = gM g') (h5 : am_up2 I 81 j z 81 15 = nI (gR g')) (h6 : am_up2 I 81 j z 81 16 = gE g') : RM g' (am_up2 I 81 j z) := by
  obtain ⟨e1, e2, e3, e4, e5⟩ := hg
  have u : ∀ r k, r ≠ 81 ∨ k < 14 → am_up2 I 81 j z r k = I r k := fun r k h => up_ne (by omega)
  have eH : gH g' = gH g := e2
  unfold RM
  unfold gW gD gN gP gX gY gL gS gT
  rw [e1, eH, e3, e4, e5]
  obtain ⟨⟨a1, a2, a3, a4⟩, b, d, h, k, l, m, n⟩ := R
  refine ⟨⟨by rw [u _ _ (by omega)]; exact a1, by rw [u _ _ (by omega)]; exact a2, by rw [u _ _ (by omega)]; exact a3, by rw [u _ _ (by omega)]; exact a4⟩, fun h h1 => ?_, fun p h1 => ?_, fun c h1 => ?_, fun q h1 => ?_, h4, h5, h6⟩
  · rw [u _ _ (by omega), u _ _ (by omega), u _ _ (by omega), u _ _ (by omega)]; exact b h h1
  · rw [u _ _ (by omega)]; exact d p h1
  · rw [u _ _ (by omega)]; exact h c h1
  · rw [u _ _ (by omega), u _ _ (by omega), u _ _ (by omega)]; exact k q h1
end
/-- one call: both sides answer alike, and all holds as before -/
def StpC (Ls : Nat) (xs : Nat → Int32) (kx km : Nat) (ax am : AmLs) (I : Nat → Nat → Int32) (J : Nat → Nat → Int64) : Prop :=
  ∃ v I1 J1 I2 J2, am_ev (am_tbl Ls xs) kx (0, ax, [], (am_sh, I, J)) = some (some (.int v), (am_sh, I1, J1)) ∧ am_ev (am_tbl Ls xs) km (0, am, [], (am_sh, I1, J1)) = some (some (.int v), (am_sh, I2, J2)) ∧ Inv I2 J2
