/-! DAYS -/
theorem nxt_ex : ∃ f : Nat → Nat, ∀ n, f n = (n * 1103515245 + 12345) % 2147483648 := ⟨fun n => (n * 1103515245 + 12345) % 2147483648, fun _ => rfl⟩
/-- chosen, so that nobody computes with it -/
noncomputable def nxt : Nat → Nat := Classical.choose nxt_ex
theorem nxt_eq (n : Nat) : nxt n = (n * 1103515245 + 12345) % 2147483648 := Classical.choose_spec nxt_ex n
def se (g : Vg) : Nat := (gE g).toNatClampNeg
noncomputable def dE (g : Vg) : Vg := setE g (nI (nxt (se g)))
noncomputable def dv (g : Vg) (k : Nat) : Nat := nxt (se g) / 65536 % k
theorem nxt_lt {n : Nat} : nxt n < 2147483648 := by rw [nxt_eq]; exact Nat.mod_lt _ (by decide)
theorem se_i {g : Vg} (h : ¬ gE g < 0) : gE g = nI (se g) ∧ se g < 2147483648 := by
  obtain ⟨j, hj, e⟩ := nI_of h
  unfold se
  rw [e, nI_clamp hj]
  exact ⟨rfl, hj⟩
theorem l_mul (a b : Nat) : lN a * lN b = lN (a * b) := (Int64.ofNat_mul a b).symm
theorem l_add (a b : Nat) : lN a + lN b = lN (a + b) := (Int64.ofNat_add a b).symm
theorem l_toI {n : Nat} (h : n < 2147483648) : Int64.toInt32 (lN n) = nI n := by
  apply Int32.toBitVec_inj.mp
  rw [Int64.toBitVec_toInt32, BitVec.signExtend_eq_setWidth_of_le _ (by decide)]
  apply BitVec.eq_of_toNat_eq
  show ((BitVec.ofNat 64 n).setWidth 32).toNat = (BitVec.ofNat 32 n).toNat
  rw [BitVec.toNat_setWidth, BitVec.toNat_ofNat, BitVec.toNat_ofNat]
  omega
theorem l_and (n : Nat) (h : n < 2 ^ 63) : lN n &&& 2147483647 = lN (n % 2147483648) := by
  apply Int64.toBitVec_inj.mp
  rw [Int64.toBitVec_and]
  apply BitVec.eq_of_toNat_eq
  show (BitVec.ofNat 64 n &&& BitVec.ofNat 64 2147483647).toNat = (BitVec.ofNat 64 (n % 2147483648)).toNat
  rw [BitVec.toNat_and, BitVec.toNat_ofNat, BitVec.toNat_ofNat, BitVec.toNat_ofNat, Nat.mod_eq_of_lt (show n < 2 ^ 64 by omega), show 2147483647 % 2 ^ 64 = 2 ^ 31 - 1 from rfl, Nat.and_two_pow_sub_one_eq_mod, Nat.mod_eq_of_lt (show n % 2147483648 < 2 ^ 64 by omega)]
theorem x_nxt {n : Nat} (h : n < 2147483648) : Int64.toInt32 ((((Int32.toInt64 (nI n)) * 1103515245) + 12345) &&& 2147483647) = nI (nxt n) := by
  rw [nI_l (by omega), show (1103515245 : Int64) = lN 1103515245 from rfl, show (12345 : Int64) = lN 12345 from rfl, l_mul, l_add, l_and _ (by omega), l_toI (Nat.mod_lt _ (by decide)), nxt_eq]
theorem m_nxt {n : Nat} (h : n < 2147483648) : Int64.toInt32 ((((Int32.toInt64 (nI n)) * 1103515245) + 12345) - (((Int32.toInt64 (nI n)) * 1103515245) + 12345) / 2147483648 * 2147483648) = nI (nxt n) := by
  rw [nI_l (by omega), show (1103515245 : Int64) = lN 1103515245 from rfl, show (12345 : Int64) = lN 12345 from rfl, show (2147483648 : Int64) = lN 2147483648 from rfl, l_mul, l_add, pk_lRem (by omega) (by omega) (by omega), l_toI (Nat.mod_lt _ (by decide)), nxt_eq]
/-- the first below n with p, n for none -/
def fstB (p : Nat → Bool) : Nat → Nat
  | 0 => 0
  | n + 1 => if fstB p n < n then fstB p n else if p n = true then n else n + 1
theorem fstB_of {p : Nat → Bool} {k : Nat} (h1 : p k = true) (h2 : ∀ j, j < k → p j = false) : ∀ n, k < n → fstB p n = k := by
  have h0 : ∀ n, n ≤ k → fstB p n = n := by
    intro n
    induction n with
    | zero => intro _; rfl
    | succ n ih =>
      intro h
      unfold fstB
      rw [ih (by omega), if_neg (Nat.lt_irrefl n), h2 n (by omega), if_neg (by decide)]
  intro n
  induction n with
  | zero => intro h; omega
  | succ n ih =>
    intro h
    unfold fstB
    rcases Nat.lt_or_ge k n with q | q
    · rw [ih q, if_pos q]
    · rw [h0 n (by omega), if_neg (Nat.lt_irrefl n), show n = k by omega, h1, if_pos rfl]
def shS (g : Vg) (h : Nat) : Nat := sm (gS g) h
def hrP (g : Vg) (v h : Nat) : Bool := decide (v < shS g (h + 1))
/-- the hour of a day, and what is so then -/
noncomputable def hrW (g : Vg) (q : Nat) : Option Nat := if dv g 100 < q ∨ shS g (gN g) = 0 then none else some (fstB (hrP g (dv (dE g) (shS g (gN g)))) (gN g))
noncomputable def hrG (g : Vg) (q : Nat) : Vg := if dv g 100 < q ∨ shS g (gN g) = 0 then dE g else dE (dE g)
def obW (g : Vg) (p h : Nat) : Nat := owN g p (gA g p) (tl g p) none h
def setX (g : Vg) (U : Nat → Int32) (M E : Int32) : Vg := (g.1, g.2.1, g.2.2.1, g.2.2.2.1, g.2.2.2.2.1, U, M, E)
theorem owN_X {g : Vg} {U : Nat → Int32} {M E : Int32} {p c t h : Nat} {ns : Option Nat} : owN (setX g U M E) p c t ns h = owN g p c t ns h := by
  have e1 : dk (setX g U M E) h = dk g h := dk_same rfl rfl
  unfold owN owC
  rw [e1]
  show pcn (owL (setX g U M E) (dk g h) p t ns h (shd g (dk g h) c t h &&& (dk g h ^^^ (-1))) (gP g)) 48 = _
  generalize shd g (dk g h) c t h &&& (dk g h ^^^ (-1)) = s
  generalize dk g h = d
  have : ∀ n, owL (setX g U M E) d p t ns h s n = owL g d p t ns h s n := by
    intro n
    induction n with
    | zero => rfl
    | succ n ih =>
      show owS (setX g U M E) d p t ns h n (owL (setX g U M E) d p t ns h s n) = owS g d p t ns h n (owL g d p t ns h s n)
      rw [ih]; rfl
  rw [this]
def pyM (g : Vg) (h : Nat) : Nat → Int32
  | 0 => gM g
  | n + 1 => pyM g h n + nI (obW g n h)
def payK (g : Vg) (h k : Nat) : Vg := setX g (fun p => if p < k then gU g p - nI (obW g p h) else gU g p) (pyM g h k) (gE g)
noncomputable def wdS (g : Vg) (p : Nat) : Vg := if ((1 ≤ gA g p % gW g + dv g 9 % 3 ∧ gA g p % gW g + dv g 9 % 3 ≤ gW g) ∧ 1 ≤ gA g p / gW g + dv g 9 / 3 ∧ gA g p / gW g + dv g 9 / 3 ≤ gD g) ∧ gH g (cix g (gA g p % gW g + dv g 9 % 3 - 1) (gA g p / gW g + dv g 9 / 3 - 1)) = 0 then setA (dE g) (fset (gA g) p (cix g (gA g p % gW g + dv g 9 % 3 - 1) (gA g p / gW g + dv g 9 / 3 - 1))) else dE g
noncomputable def wdL (g : Vg) : Nat → Vg
  | 0 => g
  | n + 1 => wdS (wdL g n) n
def payO (g : Vg) (o : Option Nat) : Vg := match o with
  | none => g
  | some h => payK g h (gP g)
noncomputable def dyW (q : Nat) (g : Vg) : Vg := wdL (payO (hrG g q) (hrW g q)) (gP g)
noncomputable def dyN (q : Nat) (g : Vg) : Nat → Vg
  | 0 => g
  | n + 1 => dyW q (dyN q g n)
theorem setE_1 {g : Vg} {x : Int32} : (setE g x).1 = g.1 ∧ (setE g x).2.1 = g.2.1 := ⟨rfl, rfl⟩
theorem setE_A {g : Vg} {x : Int32} {f : Nat → Nat} : (setA (setE g x) f).1 = g.1 ∧ (setA (setE g x) f).2.1 = g.2.1 := ⟨rfl, rfl⟩
theorem bs_EA {g : Vg} {x : Int32} {p c : Nat} (S : BS (setE g x)) (hc : c < gW g * gD g) (h0 : gH g c = 0) : BS (setA (setE g x) (fset (gA g) p c)) := bs_A (g := setE g x) S hc h0
theorem bs_dE {g : Vg} (S : BS g) : BS (dE g) := bs_E S (nI_pos (by have := nxt_lt (n := se g); omega))
theorem bs_pay {g : Vg} {h k : Nat} (S : BS g) : BS (payK g h k) := S
theorem bs_wdS {g : Vg} {p : Nat} (S : BS g) (hp : p < gP g) : BS (wdS g p) := by
  unfold wdS
  split
  · rename_i h
    exact bs_EA (bs_dE S) (cix_lt (by omega) (by omega)) h.2
  · exact bs_dE S
theorem wdS_1 {g : Vg} {p : Nat} : (wdS g p).1 = g.1 ∧ (wdS g p).2.1 = g.2.1 := by
  unfold wdS
  split
  · exact setE_A
  · exact setE_1
theorem wdL_1 {g : Vg} : ∀ n, (wdL g n).1 = g.1 ∧ (wdL g n).2.1 = g.2.1
  | 0 => ⟨rfl, rfl⟩
  | n + 1 => by
    have h := wdL_1 (g := g) n
    have h2 := wdS_1 (g := wdL g n) (p := n)
    exact ⟨h2.1.trans h.1, h2.2.trans h.2⟩
theorem gP_of {g g' : Vg} (h : g'.1 = g.1) : gP g' = gP g := by unfold gP; rw [h]
theorem gN_of {g g' : Vg} (h : g'.1 = g.1) : gN g' = gN g := by unfold gN; rw [h]
theorem bs_wdL {g : Vg} (S : BS g) : ∀ n, n ≤ gP g → BS (wdL g n)
  | 0, _ => S
  | n + 1, h => bs_wdS (bs_wdL S n (by omega)) (by rw [gP_of (wdL_1 n).1]; omega)
theorem hrG_1 {g : Vg} {q : Nat} : (hrG g q).1 = g.1 ∧ (hrG g q).2.1 = g.2.1 := by
  unfold hrG
  split
  · exact setE_1
  · exact ⟨setE_1.1.trans setE_1.1, setE_1.2.trans setE_1.2⟩
theorem bs_hrG {g : Vg} {q : Nat} (S : BS g) : BS (hrG g q) := by
  unfold hrG
  split
  · exact bs_dE S
  · exact bs_dE (bs_dE S)
theorem payO_1 {g : Vg} {o : Option Nat} : (payO g o).1 = g.1 ∧ (payO g o).2.1 = g.2.1 := by
  cases o <;> exact ⟨rfl, rfl⟩
theorem bs_payO {g : Vg} {o : Option Nat} (S : BS g) : BS (payO g o) := by
  cases o with
  | none => exact S
  | some h => exact bs_pay S
theorem dyW_1 {g : Vg} {q : Nat} : (dyW q g).1 = g.1 ∧ (dyW q g).2.1 = g.2.1 := by
  have h1 := wdL_1 (g := payO (hrG g q) (hrW g q)) (gP g)
  have h2 := payO_1 (g := hrG g q) (o := hrW g q)
  have h3 := hrG_1 (g := g) (q := q)
  exact ⟨h1.1.trans (h2.1.trans h3.1), h1.2.trans (h2.2.trans h3.2)⟩
theorem bs_dyW {g : Vg} {q : Nat} (S : BS g) : BS (dyW q g) := bs_wdL (bs_payO (bs_hrG S)) _ (by rw [gP_of payO_1.1, gP_of hrG_1.1]; omega)
theorem dyN_1 {g : Vg} {q : Nat} : ∀ n, (dyN q g n).1 = g.1 ∧ (dyN q g n).2.1 = g.2.1
  | 0 => ⟨rfl, rfl⟩
  | n + 1 => by
    have h := dyN_1 (g := g) (q := q) n
    have h2 := dyW_1 (g := dyN q g n) (q := q)
    exact ⟨h2.1.trans h.1, h2.2.trans h.2⟩
theorem bs_dyN {g : Vg} {q : Nat} (S : BS g) : ∀ n, BS (dyN q g n)
  | 0 => S
  | n + 1 => bs_dyW (bs_dyN S n)
/-- the hour that is drawn -/
theorem hr_ex {g : Vg} {v : Nat} (hv : v < shS g (gN g)) : ∃ h, h < gN g ∧ v < shS g (h + 1) ∧ (∀ j, j < h → shS g (j + 1) ≤ v) ∧ fstB (hrP g v) (gN g) = h := by
  have key : ∀ n, v < shS g n → ∃ h, h < n ∧ v < shS g (h + 1) ∧ ∀ j, j < h → shS g (j + 1) ≤ v := by
    intro n
    induction n with
    | zero => intro h; exact absurd h (Nat.not_lt_zero v)
    | succ n ih =>
      intro h
      by_cases q : v < shS g n
      · obtain ⟨k, h1, h2, h3⟩ := ih q
        exact ⟨k, by omega, h2, h3⟩
      · refine ⟨n, by omega, h, fun j hj => ?_⟩
        have := sm_mono (f := gS g) (show j + 1 ≤ n by omega)
        unfold shS at q ⊢
        omega
  obtain ⟨h, h1, h2, h3⟩ := key _ hv
  refine ⟨h, h1, h2, h3, fstB_of (decide_eq_true h2) (fun j hj => decide_eq_false ?_) _ h1⟩
  have := h3 j hj
  omega
theorem shS_le {g : Vg} (B : BG g) {k : Nat} (hk : k ≤ gN g) : shS g k ≤ 120 := by
  have b1 := bg_1 B
  have h1 := sm_le (f := gS g) (c := 20) (n := k) (fun h hh => (bg_h B (by omega : h < gN g)).2.2.2)
  unfold shS
  omega
