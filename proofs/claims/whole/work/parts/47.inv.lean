/-! NOTES, TEXT, IMAGES: what both sides hold of them -/
abbrev Vr : Type := (Nat × Int32 × Nat × (Nat → Nat)) × (Nat × (Nat → Nat) × (Nat → Nat) × (Nat → Nat)) × (Nat × (Nat → Nat) × (Nat → Nat)) × (Nat × (Nat → Nat) × (Nat → Nat) × (Nat → Nat)) × (Nat × Vs) × (Nat × Vs)
def qG (r : Vr) : Nat := r.1.1
def qF (r : Vr) : Int32 := r.1.2.1
def qN (r : Vr) : Nat := r.1.2.2.1
def qT (r : Vr) : Nat → Nat := r.1.2.2.2
def eN (r : Vr) : Nat := r.2.1.1
def eP (r : Vr) : Nat → Nat := r.2.1.2.1
def eC (r : Vr) : Nat → Nat := r.2.1.2.2.1
def eH (r : Vr) : Nat → Nat := r.2.1.2.2.2
def tN (r : Vr) : Nat := r.2.2.1.1
def tH (r : Vr) : Nat → Nat := r.2.2.1.2.1
def tS (r : Vr) : Nat → Nat := r.2.2.1.2.2
def bN (r : Vr) : Nat := r.2.2.2.1.1
def bP (r : Vr) : Nat → Nat := r.2.2.2.1.2.1
def bH (r : Vr) : Nat → Nat := r.2.2.2.1.2.2.1
def bS (r : Vr) : Nat → Nat := r.2.2.2.1.2.2.2
def k0 (r : Vr) : Nat := r.2.2.2.2.1.1
def i0 (r : Vr) : Vs := r.2.2.2.2.1.2
def k1 (r : Vr) : Nat := r.2.2.2.2.2.1
def i1 (r : Vr) : Vs := r.2.2.2.2.2.2
/-- a byte as the class holds it -/
def bI (b : Nat) : Int32 := if b < 128 then nI b else nI b - 256
/-- bounds: houses where nobody stands, the seed, notes, images -/
def BS (g : Vg) : Prop := BG g ∧ (∀ p, p < gP g → gH g (gA g p) = 0) ∧ ¬ gE g < 0
def BQ (g : Vg) (r : Vr) : Prop :=
  (qG r ≤ 100 ∧ qN r ≤ 500 ∧ eN r ≤ 10 ∧ tN r ≤ 10 ∧ bN r ≤ 30 ∧ k0 r ≤ 1 ∧ k1 r ≤ 1) ∧
  (∀ k, k < qN r → qT r k < 256) ∧
  (∀ k, k < eN r → eP r k < gP g ∧ eC r k < gW g * gD g ∧ eH r k < gN g) ∧
  (∀ k, k < tN r → tH r k < gN g ∧ tS r k ≤ 99) ∧
  (∀ k, k < bN r → bP r k < gP g ∧ bH r k < gN g ∧ bS r k ≤ 99) ∧
  (k0 r = 1 → BS (g.1, i0 r)) ∧ (k1 r = 1 → BS (g.1, i1 r))
/-- an image as the class holds it: row of fields o, rows a .. a + 3 -/
def XI (P : Nat) (s : Vs) (o : Nat) (I : Nat → Nat → Int32) : Prop :=
  (∀ p, p < P → I (o + 1) p = nI (s.2.1 p) ∧ I (o + 2) p = nI (s.2.2.1 p) ∧ I (o + 3) p = s.2.2.2.2.1 p) ∧ (∀ c, c < 48 → I (o + 4) c = nI (s.1 c)) ∧ I o 4 = s.2.2.2.2.2.1 ∧ I o 5 = nI s.2.2.2.1 ∧ I o 6 = s.2.2.2.2.2.2
def MI (P : Nat) (s : Vs) (o : Nat) (I : Nat → Nat → Int32) : Prop :=
  (∀ p, p < P → I 113 (o + p) = nI (s.2.1 p) ∧ I 113 (o + 6 + p) = nI (s.2.2.1 p) ∧ I 113 (o + 12 + p) = s.2.2.2.2.1 p) ∧ (∀ c, c < 48 → I 113 (o + 18 + c) = nI (s.1 c)) ∧ I 113 (o + 66) = s.2.2.2.2.2.1 ∧ I 113 (o + 67) = nI s.2.2.2.1 ∧ I 113 (o + 68) = s.2.2.2.2.2.2
def QX (g : Vg) (r : Vr) (I : Nat → Nat → Int32) : Prop :=
  (I 18 5 = nI (qG r) ∧ I 1 7 = qF r ∧ I 1 6 = nI (qN r) ∧ I 49 3 = nI (eN r) ∧ I 53 3 = nI (tN r) ∧ I 57 3 = nI (bN r) ∧ I 80 0 = 0) ∧
  (∀ k, k < qN r → I 2 k = bI (qT r k)) ∧
  (∀ k, k < eN r → I 50 k = nI (eP r k) ∧ I 51 k = nI (eC r k) ∧ I 52 k = nI (eH r k)) ∧
  (∀ k, k < tN r → I 55 k = nI (tH r k) ∧ I 56 k = nI (tS r k)) ∧
  (∀ k, k < bN r → I 58 k = nI (bP r k) ∧ I 59 k = nI (bH r k) ∧ I 60 k = nI (bS r k)) ∧
  (I 48 0 = nI (k0 r) ∧ I 48 1 = nI (k1 r)) ∧ (k0 r = 1 → XI (gP g) (i0 r) 38 I) ∧ (k1 r = 1 → XI (gP g) (i1 r) 43 I)
def QM (g : Vg) (r : Vr) (I : Nat → Nat → Int32) : Prop :=
  (I 81 13 = nI (qG r) ∧ I 81 19 = qF r ∧ I 81 18 = nI (qN r) ∧ I 81 43 = nI (eN r) ∧ I 81 52 = nI (tN r) ∧ I 81 55 = nI (bN r)) ∧
  (∀ k, k < qN r → I 91 k = nI (qT r k)) ∧
  (∀ k, k < eN r → I 100 k = nI (eP r k) ∧ I 101 k = nI (eC r k) ∧ I 102 k = nI (eH r k)) ∧
  (∀ k, k < tN r → I 108 k = nI (tH r k) ∧ I 109 k = nI (tS r k)) ∧
  (∀ k, k < bN r → I 111 k = nI (bP r k) ∧ I 110 k = nI (bH r k) ∧ I 112 k = nI (bS r k)) ∧
  (I 114 0 = nI (k0 r) ∧ I 114 1 = nI (k1 r)) ∧ (k0 r = 1 → MI (gP g) (i0 r) 0 I) ∧ (k1 r = 1 → MI (gP g) (i1 r) 70 I)
/-- what all this speaks of: the rest is scratch -/
def xrel (r k : Nat) : Prop := r < 81 ∧ (r < 3 ∨ 17 < r) ∧ (r < 66 ∨ 71 < r) ∧ (r < 74 ∨ 79 < r) ∧ (r ≠ 80 ∨ k = 0) ∧ (r ≠ 1 ∨ 6 ≤ k)
def mrel (r k : Nat) : Prop := 81 ≤ r ∧ (r < 92 ∨ 99 < r) ∧ (r < 103 ∨ 107 < r) ∧ (r ≠ 81 ∨ (k = 0 ∨ k = 1 ∨ k = 3 ∨ k = 8) ∨ (13 ≤ k ∧ k ≤ 16) ∨ k = 18 ∨ k = 19 ∨ k = 39 ∨ k = 40 ∨ k = 43 ∨ k = 52 ∨ k = 55)
def InX (g : Vg) (r : Vr) (I : Nat → Nat → Int32) (J : Nat → Nat → Int64) : Prop := RX g I ∧ QX g r I ∧ RD g J
def InM (g : Vg) (r : Vr) (I : Nat → Nat → Int32) : Prop := RM g I ∧ QM g r I ∧ m0 I
def Inv (I : Nat → Nat → Int32) (J : Nat → Nat → Int64) : Prop := ∃ g r, BS g ∧ BQ g r ∧ InX g r I J ∧ InM g r I
section
variable {g : Vg} {r : Vr} {I I' : Nat → Nat → Int32} {J J' : Nat → Nat → Int64}
theorem rx_cong (B : BG g) (e : ∀ r k, xrel r k → I' r k = I r k) (R : RX g I) : RX g I' := by
  have b1 := bg_1 B
  exact ⟨⟨(e _ _ (by unfold xrel; omega)).trans (rx_W R), (e _ _ (by unfold xrel; omega)).trans (rx_D R), (e _ _ (by unfold xrel; omega)).trans (rx_C R), (e _ _ (by unfold xrel; omega)).trans (rx_N R), (e _ _ (by unfold xrel; omega)).trans (rx_P R)⟩, fun h c h1 h2 => (e _ _ (by unfold xrel; omega)).trans (rx_o R h1 h2), fun h h1 => ⟨(e _ _ (by unfold xrel; omega)).trans (rx_L R h1), (e _ _ (by unfold xrel; omega)).trans (rx_S R h1)⟩, fun p h1 => (e _ _ (by unfold xrel; omega)).trans (rx_T R h1), fun c h1 => ⟨(e _ _ (by unfold xrel; omega)).trans (rx_x R h1), (e _ _ (by unfold xrel; omega)).trans (rx_y R h1)⟩, fun c h1 => (e _ _ (by unfold xrel; omega)).trans (rx_H R h1), fun p h1 => ⟨(e _ _ (by unfold xrel; omega)).trans (rx_A R h1), (e _ _ (by unfold xrel; omega)).trans (rx_F R h1), (e _ _ (by unfold xrel; omega)).trans (rx_U R h1)⟩, (e _ _ (by unfold xrel; omega)).trans (rx_M R), (e _ _ (by unfold xrel; omega)).trans (rx_R R), (e _ _ (by unfold xrel; omega)).trans (rx_E R)⟩
theorem rm_cong (e : ∀ r k, mrel r k → I' r k = I r k) (R : RM g I) : RM g I' :=
  ⟨⟨(e _ _ (by unfold mrel; omega)).trans (rm_W R), (e _ _ (by unfold mrel; omega)).trans (rm_D R), (e _ _ (by unfold mrel; omega)).trans (rm_N R), (e _ _ (by unfold mrel; omega)).trans (rm_P R)⟩, fun h h1 => ⟨(congrArg Int32.toInt (e _ _ (by unfold mrel; omega))).trans (rm_X R h1), (congrArg Int32.toInt (e _ _ (by unfold mrel; omega))).trans (rm_Y R h1), (e _ _ (by unfold mrel; omega)).trans (rm_L R h1), (e _ _ (by unfold mrel; omega)).trans (rm_S R h1)⟩, fun p h1 => (e _ _ (by unfold mrel; omega)).trans (rm_T R h1), fun c h1 => (e _ _ (by unfold mrel; omega)).trans (rm_H R h1), fun p h1 => ⟨(e _ _ (by unfold mrel; omega)).trans (rm_A R h1), (e _ _ (by unfold mrel; omega)).trans (rm_F R h1), (e _ _ (by unfold mrel; omega)).trans (rm_U R h1)⟩, (e _ _ (by unfold mrel; omega)).trans (rm_M R), (e _ _ (by unfold mrel; omega)).trans (rm_R R), (e _ _ (by unfold mrel; omega)).trans (rm_E R)⟩
theorem xi_cong {P o : Nat} {s : Vs} (ho : o = 38 ∨ o = 43) (e : ∀ r k, xrel r k → I' r k = I r k) (R : XI P s o I) : XI P s o I' :=
  ⟨fun p h1 => ⟨(e _ _ (by unfold xrel; omega)).trans (R.1 p h1).1, (e _ _ (by unfold xrel; omega)).trans (R.1 p h1).2.1, (e _ _ (by unfold xrel; omega)).trans (R.1 p h1).2.2⟩, fun c h1 => (e _ _ (by unfold xrel; omega)).trans (R.2.1 c h1), (e _ _ (by unfold xrel; omega)).trans R.2.2.1, (e _ _ (by unfold xrel; omega)).trans R.2.2.2.1, (e _ _ (by unfold xrel; omega)).trans R.2.2.2.2⟩
theorem mi_cong {P o : Nat} {s : Vs} (e : ∀ r k, mrel r k → I' r k = I r k) (R : MI P s o I) : MI P s o I' :=
  ⟨fun p h1 => ⟨(e _ _ (by unfold mrel; omega)).trans (R.1 p h1).1, (e _ _ (by unfold mrel; omega)).trans (R.1 p h1).2.1, (e _ _ (by unfold mrel; omega)).trans (R.1 p h1).2.2⟩, fun c h1 => (e _ _ (by unfold mrel; omega)).trans (R.2.1 c h1), (e _ _ (by unfold mrel; omega)).trans R.2.2.1, (e _ _ (by unfold mrel; omega)).trans R.2.2.2.1, (e _ _ (by unfold mrel; omega)).trans R.2.2.2.2⟩
theorem qx_cong (e : ∀ r k, xrel r k → I' r k = I r k) (R : QX g r I) : QX g r I' := by
  obtain ⟨⟨a1, a2, a3, a4, a5, a6, a7⟩, b1, b2, b3, b4, ⟨c1, c2⟩, d1, d2⟩ := R
  exact ⟨⟨(e _ _ (by unfold xrel; omega)).trans a1, (e _ _ (by unfold xrel; omega)).trans a2, (e _ _ (by unfold xrel; omega)).trans a3, (e _ _ (by unfold xrel; omega)).trans a4, (e _ _ (by unfold xrel; omega)).trans a5, (e _ _ (by unfold xrel; omega)).trans a6, (e _ _ (by unfold xrel; omega)).trans a7⟩, fun k h => (e _ _ (by unfold xrel; omega)).trans (b1 k h), fun k h => ⟨(e _ _ (by unfold xrel; omega)).trans (b2 k h).1, (e _ _ (by unfold xrel; omega)).trans (b2 k h).2.1, (e _ _ (by unfold xrel; omega)).trans (b2 k h).2.2⟩, fun k h => ⟨(e _ _ (by unfold xrel; omega)).trans (b3 k h).1, (e _ _ (by unfold xrel; omega)).trans (b3 k h).2⟩, fun k h => ⟨(e _ _ (by unfold xrel; omega)).trans (b4 k h).1, (e _ _ (by unfold xrel; omega)).trans (b4 k h).2.1, (e _ _ (by unfold xrel; omega)).trans (b4 k h).2.2⟩, ⟨(e _ _ (by unfold xrel; omega)).trans c1, (e _ _ (by unfold xrel; omega)).trans c2⟩, fun h => xi_cong (Or.inl rfl) e (d1 h), fun h => xi_cong (Or.inr rfl) e (d2 h)⟩
theorem qm_cong (e : ∀ r k, mrel r k → I' r k = I r k) (R : QM g r I) : QM g r I' := by
  obtain ⟨⟨a1, a2, a3, a4, a5, a6⟩, b1, b2, b3, b4, ⟨c1, c2⟩, d1, d2⟩ := R
  exact ⟨⟨(e _ _ (by unfold mrel; omega)).trans a1, (e _ _ (by unfold mrel; omega)).trans a2, (e _ _ (by unfold mrel; omega)).trans a3, (e _ _ (by unfold mrel; omega)).trans a4, (e _ _ (by unfold mrel; omega)).trans a5, (e _ _ (by unfold mrel; omega)).trans a6⟩, fun k h => (e _ _ (by unfold mrel; omega)).trans (b1 k h), fun k h => ⟨(e _ _ (by unfold mrel; omega)).trans (b2 k h).1, (e _ _ (by unfold mrel; omega)).trans (b2 k h).2.1, (e _ _ (by unfold mrel; omega)).trans (b2 k h).2.2⟩, fun k h => ⟨(e _ _ (by unfold mrel; omega)).trans (b3 k h).1, (e _ _ (by unfold mrel; omega)).trans (b3 k h).2⟩, fun k h => ⟨(e _ _ (by unfold mrel; omega)).trans (b4 k h).1, (e _ _ (by unfold mrel; omega)).trans (b4 k h).2.1, (e _ _ (by unfold mrel; omega)).trans (b4 k h).2.2⟩, ⟨(e _ _ (by unfold mrel; omega)).trans c1, (e _ _ (by unfold mrel; omega)).trans c2⟩, fun h => mi_cong e (d1 h), fun h => mi_cong e (d2 h)⟩
theorem m0_cong (e : ∀ r k, mrel r k → I' r k = I r k) (R : m0 I) : m0 I' := ⟨(e _ _ (by unfold mrel; omega)).trans R.1, (e _ _ (by unfold mrel; omega)).trans R.2⟩
theorem inx_cong (B : BG g) (e : ∀ r k, xrel r k → I' r k = I r k) (e2 : ∀ k, J' 62 k = J 62 k) (R : InX g r I J) : InX g r I' J' :=
  ⟨rx_cong B e R.1, qx_cong e R.2.1, fun h hh => (e2 h).trans (R.2.2 h hh)⟩
theorem inm_cong (e : ∀ r k, mrel r k → I' r k = I r k) (R : InM g r I) : InM g r I' := ⟨rm_cong e R.1, qm_cong e R.2.1, m0_cong e R.2.2⟩
end
/-- one call: both sides answer alike, and all holds as before -/
def StpC (Ls : Nat) (xs : Nat → Int32) (kx km : Nat) (ax am : AmLs) (I : Nat → Nat → Int32) (J : Nat → Nat → Int64) : Prop :=
  ∃ v I1 J1 I2 J2, am_ev (am_tbl Ls xs) kx (0, ax, [], (am_sh, I, J)) = some (some (.int v), (am_sh, I1, J1)) ∧ am_ev (am_tbl Ls xs) km (0, am, [], (am_sh, I1, J1)) = some (some (.int v), (am_sh, I2, J2)) ∧ Inv I2 J2
