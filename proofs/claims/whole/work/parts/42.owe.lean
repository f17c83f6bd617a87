/-! OWED: what both sides answer -/
def tl (g : Vg) (p : Nat) : Nat := gT g p - gF g p
def ahd (r tq tp q p : Nat) : Bool := if r = 1 ∧ tq ≠ tp then decide (tp < tq) else decide (q < p)
/-- the shadow of somebody so tall on a cell, where d is dark -/
def shd (g : Vg) (d : Int64) (c t h : Nat) : Int64 := if hbt d c = true then 0 else rayN (gW g) (gD g) (gH g) (gX g h) (gY g h) (t * gL g h) c 0
def owS (g : Vg) (d : Int64) (p t : Nat) (ns : Option Nat) (h q : Nat) (s : Int64) : Int64 := if (q ≠ p ∧ ns ≠ some q) ∧ ahd (gR g) (tl g q) t q p = true then s &&& (shd g d (gA g q) (tl g q) h ^^^ (-1)) else s
def owL (g : Vg) (d : Int64) (p t : Nat) (ns : Option Nat) (h : Nat) (s : Int64) : Nat → Int64
  | 0 => s
  | n + 1 => owS g d p t ns h n (owL g d p t ns h s n)
def owC (g : Vg) (p c t : Nat) (ns : Option Nat) (h : Nat) : Int64 := owL g (dk g h) p t ns h (shd g (dk g h) c t h &&& (dk g h ^^^ (-1))) (gP g)
def owN (g : Vg) (p c t : Nat) (ns : Option Nat) (h : Nat) : Nat := pcn (owC g p c t ns h) 48
theorem owS_0 {g : Vg} {d : Int64} {p t : Nat} {ns : Option Nat} {h q : Nat} : owS g d p t ns h q 0 = 0 := by
  unfold owS; split
  · exact l_zan _
  · rfl
theorem owL_0 {g : Vg} {d : Int64} {p t : Nat} {ns : Option Nat} {h : Nat} {s : Int64} {k : Nat} (h0 : owL g d p t ns h s k = 0) : ∀ n, owL g d p t ns h s (k + n) = 0 := by
  intro n
  induction n with
  | zero => exact h0
  | succ n ih => show owS g d p t ns h (k + n) (owL g d p t ns h s (k + n)) = 0; rw [ih, owS_0]
theorem owN_le {g : Vg} {p c t : Nat} {ns : Option Nat} {h : Nat} : owN g p c t ns h ≤ 48 := pcn_le _ _
/-- bits of what is owed: those of the shadow, not dark, on cells -/
theorem owL_sub {g : Vg} {d : Int64} {p t : Nat} {ns : Option Nat} {h : Nat} {s : Int64} {j : Nat} : ∀ n, hbt (owL g d p t ns h s n) j = true → hbt s j = true := by
  intro n
  induction n with
  | zero => exact id
  | succ n ih =>
    intro q
    apply ih
    unfold owL owS at q
    split at q
    · rw [hb_an] at q; exact (Bool.and_eq_true_iff.mp q).1
    · exact q
theorem shd_cell {g : Vg} {d : Int64} {c t h j : Nat} (hWD : gW g * gD g ≤ 48) (hj : j < 64) (q : hbt (shd g d c t h) j = true) : j < gW g * gD g ∧ gH g j = 0 := by
  unfold shd at q
  split at q
  · rw [hb_0] at q; cases q
  · rcases rayN_acc hj hWD _ _ _ q with w | w
    · rw [hb_0] at w; cases w
    · exact w
theorem owC_cell {g : Vg} {p c t : Nat} {ns : Option Nat} {h j : Nat} (hWD : gW g * gD g ≤ 48) (hj : j < 64) (q : hbt (owC g p c t ns h) j = true) : j < gW g * gD g := by
  have := owL_sub _ q
  rw [hb_an] at this
  exact (shd_cell hWD hj (Bool.and_eq_true_iff.mp this).1).1
theorem pcn_hi {a : Int64} {m : Nat} (h : ∀ j, m ≤ j → j < 64 → hbt a j = false) : ∀ n, m + n ≤ 64 → pcn a (m + n) = pcn a m := by
  intro n
  induction n with
  | zero => intro _; rfl
  | succ n ih =>
    intro hn
    show pcn a (m + n) + (if hbt a (m + n) = true then 1 else 0) = _
    rw [ih (by omega), h (m + n) (by omega) (by omega), if_neg (by decide)]
    rfl
theorem owC_pcn {g : Vg} {p c t : Nat} {ns : Option Nat} {h : Nat} (hWD : gW g * gD g ≤ 48) : pcn (owC g p c t ns h) 64 = owN g p c t ns h :=
  pcn_hi (m := 48) (fun j h1 h2 => by
    cases hb : hbt (owC g p c t ns h) j
    · rfl
    · have := owC_cell hWD h2 hb; omega) 16 (by omega)
/-! the class -/
def RD (g : Vg) (J : Nat → Nat → Int64) : Prop := ∀ h, h < gN g → J 62 h = dk g h
section
variable {Ls : Nat} {xs : Nat → Int32} {g : Vg} {I : Nat → Nat → Int32} {J : Nat → Nat → Int64}
theorem sx_tall (R : RX g I) (B : BG g) {p : Nat} (hp : p < gP g) : am_ev (am_tbl Ls xs) 170 (0, [(0, .ref 61), (1, .int (nI p))], [], (am_sh, I, J)) = some (some (.int (nI (tl g p))), (am_sh, I, J)) := by
  have b1 := bg_1 B
  have b2 := bg_p B hp
  simp (disch := omega) only [b_X5_tallOf_0, b_X5_tallOf_37, b_X5_tallOf_38, Option.bind_some, am_k_v, am_k_n, ↓n_in, nI_clamp, i_p1, nI_leI, nI_ltI, nI_eq, n_lt0, n_le0, n_eq0, n_gt0, n_lm, n_em, n_me, n_mlt, false_or, or_false, true_or, or_true, false_and, and_false, true_and, and_true, not_false_eq_true, not_true_eq_false, if_true, if_false, if_pos, if_neg, am_b01, am_b0, am_b1, ne_eq, rx_P R, rx_T R, rx_F R, pk_sub]
  rfl
theorem sx_ahead (R : RX g I) (B : BG g) {q tq p tp : Nat} (hp : p < 6) (hq : q < 6) (h1 : tq < 1000) (h2 : tp < 1000) : am_ev (am_tbl Ls xs) 174 (0, [(0, .ref 61), (1, .int (nI q)), (2, .int (nI tq)), (3, .int (nI p)), (4, .int (nI tp))], [], (am_sh, I, J)) = some (some (.int (am_b (ahd (gR g) tq tp q p))), (am_sh, I, J)) := by
  have b1 := bg_1 B
  simp (disch := omega) only [b_X5_isAhead_0, b_X5_isAhead_29, b_X5_isAhead_28, b_X5_isAhead_39, Option.bind_some, am_k_v, am_k_n, ↓n_in, nI_clamp, i_p1, nI_leI, nI_ltI, nI_eq, n_lt0, n_le0, n_eq0, n_gt0, n_lm, n_em, n_me, n_mlt, false_or, or_false, true_or, or_true, false_and, and_false, true_and, and_true, not_false_eq_true, not_true_eq_false, if_true, if_false, if_pos, if_neg, am_b01, am_b0, am_b1, ne_eq, rx_R R, n_eq1]
  unfold ahd
  by_cases e1 : gR g = 1
  · by_cases e2 : tq = tp
    · by_cases e3 : q < p <;> simp (disch := omega) [e1, e2, e3, am_b, if_pos, if_neg]
    · by_cases e3 : tp < tq <;> simp (disch := omega) [e1, e2, e3, am_b, if_pos, if_neg]
  · by_cases e3 : q < p <;> simp (disch := omega) [e1, e3, am_b, if_pos, if_neg]
theorem sx_rayl (R : RX g I) (B : BG g) {h N : Nat} (hh : h < gN g) (hN : N < 1000) : ∀ n k c s, k + n = N → c < gW g * gD g → am_ev (am_tbl Ls xs) 169 (79, [(0, .ref 61), (3, .int (nI h)), (4, .long s), (6, .int (nI N)), (7, .int (oI (nb (gW g) (gD g) (gX g h) (gY g h) c))), (8, .int (nI k))], [], (am_sh, I, J)) = some (some (.long (rayN (gW g) (gD g) (gH g) (gX g h) (gY g h) n c s)), (am_sh, I, J)) := by
  have b1 := bg_1 B
  intro n
  induction n with
  | zero =>
    intro k c s hk hc
    rw [b_X5_shadowFrom_79]
    simp (disch := omega) only [b_X5_shadowFrom_148, Option.bind_some, am_k_v, am_k_n, ↓n_in, nI_clamp, i_p1, nI_leI, nI_ltI, nI_eq, n_lt0, n_le0, n_eq0, n_gt0, n_lm, n_em, n_me, n_mlt, false_or, or_false, true_or, or_true, false_and, and_false, true_and, and_true, not_false_eq_true, not_true_eq_false, if_true, if_false, if_pos, if_neg, am_b01, am_b0, am_b1, ne_eq, rayN]
  | succ n ih =>
    intro k c s hk hc
    rw [b_X5_shadowFrom_79]
    unfold rayN
    cases hb : nb (gW g) (gD g) (gX g h) (gY g h) c with
    | none => simp (disch := omega) only [oI, b_X5_shadowFrom_148, Option.bind_some, am_k_v, am_k_n, ↓n_in, nI_clamp, i_p1, nI_leI, nI_ltI, nI_eq, n_lt0, n_le0, n_eq0, n_gt0, n_lm, n_em, n_me, n_mlt, false_or, or_false, true_or, or_true, false_and, and_false, true_and, and_true, not_false_eq_true, not_true_eq_false, if_true, if_false, if_pos, if_neg, am_b01, am_b0, am_b1, ne_eq, show ((-1 : Int32) < 0) = True from by decide]
    | some c' =>
      have hc' := (nb_lt hb).1
      have b2 := bg_H B (c := c') (by omega)
      simp (disch := omega) only [oI, b_X5_shadowFrom_148, Option.bind_some, am_k_v, am_k_n, ↓n_in, nI_clamp, i_p1, nI_leI, nI_ltI, nI_eq, n_lt0, n_le0, n_eq0, n_gt0, n_lm, n_em, n_me, n_mlt, false_or, or_false, true_or, or_true, false_and, and_false, true_and, and_true, not_false_eq_true, not_true_eq_false, if_true, if_false, if_pos, if_neg, am_b01, am_b0, am_b1, ne_eq, rx_C R, rx_H R, rx_o R]
      by_cases h0 : gH g c' = 0
      · rw [if_pos h0, if_pos h0]
        exact ih (k + 1) c' _ (by omega) hc'
      · rw [if_neg h0, if_neg h0]
theorem sx_shadow (R : RX g I) (B : BG g) {c t h : Nat} (hc : c < gW g * gD g) (hh : h < gN g) (ht : t ≤ 100) : am_ev (am_tbl Ls xs) 169 (0, [(0, .ref 61), (1, .int (nI c)), (2, .int (nI t)), (3, .int (nI h))], [], (am_sh, I, J)) = some (some (.long (shd g (J 62 h) c t h)), (am_sh, I, J)) := by
  have b1 := bg_1 B
  have b2 := bg_h B hh
  have b3 : t * gL g h ≤ 100 * 3 := Nat.mul_le_mul ht b2.2.2.1
  simp (disch := omega) only [b_X5_shadowFrom_0, b_X5_shadowFrom_45, Option.bind_some, am_k_v, am_k_n, ↓n_in, nI_clamp, i_p1, nI_leI, nI_ltI, nI_eq, n_lt0, n_le0, n_eq0, n_gt0, n_lm, n_em, n_me, n_mlt, false_or, or_false, true_or, or_true, false_and, and_false, true_and, and_true, not_false_eq_true, not_true_eq_false, if_true, if_false, if_pos, if_neg, am_b01, am_b0, am_b1, ne_eq, rx_C R, rx_N R, rx_L R, rx_o R, pk_mul, lc_eq, hb_z]
  unfold shd
  cases hb : hbt (J 62 h) c
  · rw [if_pos rfl, if_neg (by decide)]
    exact sx_rayl R B hh (by omega) _ 0 c 0 (by omega) hc
  · rw [if_neg (by decide), if_pos rfl]
theorem sx_hasHour' (R : RX g I) (B : BG g) {h : Nat} (hh : h < 100) : am_ev (am_tbl Ls xs) 134 (0, [(0, .ref 18), (1, .int (nI h))], [], (am_sh, I, J)) = some (some (.int (am_b (decide (h < gN g)))), (am_sh, I, J)) := by
  have b1 := bg_1 B
  rw [sx_hasHour]
  simp (disch := omega) only [Option.bind_some, am_k_v, am_k_n, ↓n_in, nI_clamp, i_p1, nI_leI, nI_ltI, nI_eq, n_lt0, n_le0, n_eq0, n_gt0, n_lm, n_em, n_me, n_mlt, false_or, or_false, true_or, or_true, false_and, and_false, true_and, and_true, not_false_eq_true, not_true_eq_false, if_true, if_false, if_pos, if_neg, am_b01, am_b0, am_b1, ne_eq, rx_N R, Nat.not_le]
theorem sx_owed (R : RX g I) (B : BG g) (D : RD g J) {p c t h : Nat} {ns : Option Nat} (hp : p < 6) (hc : c < gW g * gD g) (hh : h < gN g) (ht : t ≤ 100) (hns : ∀ y, ns = some y → y < 6) : am_ev (am_tbl Ls xs) 175 (0, [(0, .ref 61), (1, .int (nI p)), (2, .int (nI c)), (3, .int (nI t)), (4, .int (oI ns)), (5, .int (nI h))], [], (am_sh, I, J)) = some (some (.long (owC g p c t ns h)), (am_sh, I, J)) := by
  have b1 := bg_1 B
  simp (disch := omega) only [b_X5_owedCells_0, b_X5_owedCells_9, b_X5_owedCells_22, Option.bind_some, am_k_v, am_k_n, ↓n_in, nI_clamp, i_p1, nI_leI, nI_ltI, nI_eq, n_lt0, n_le0, n_eq0, n_gt0, n_lm, n_em, n_me, n_mlt, false_or, or_false, true_or, or_true, false_and, and_false, true_and, and_true, not_false_eq_true, not_true_eq_false, if_true, if_false, if_pos, if_neg, am_b01, am_b0, am_b1, ne_eq, sx_hasHour' R B, sx_shadow R B, decide_eq_true_eq, decide_eq_false_iff_not, hh, D h hh]
  generalize hs : shd g (dk g h) c t h &&& (dk g h ^^^ (-1)) = s
  have fin : ∀ s', am_ev (am_tbl Ls xs) 175 (125, [(6, .long s')], [], (am_sh, I, J)) = some (some (.long s'), (am_sh, I, J)) := fun s' => b_X5_owedCells_125 I J s'
  rcases lpx (N := gP g) (f := fun k => am_ev (am_tbl Ls xs) 175 (39, [(0, .ref 61), (1, .int (nI p)), (3, .int (nI t)), (4, .int (oI ns)), (5, .int (nI h)), (6, .long (owL g (dk g h) p t ns h s k)), (8, .int (nI k))], [], (am_sh, I, J))) (fun k => owL g (dk g h) p t ns h s k = 0) (by
    intro k hk h0
    have b2 := bg_p B hk
    have b3 : tl g k ≤ 9 := by unfold tl; omega
    try dsimp only
    rw [b_X5_owedCells_39]
    simp (disch := omega) only [b_X5_owedCells_64, b_X5_owedCells_119, b_X5_owedCells_89, b_X5_owedCells_112, Option.bind_some, am_k_v, am_k_n, ↓n_in, nI_clamp, i_p1, nI_leI, nI_ltI, nI_eq, n_lt0, n_le0, n_eq0, n_gt0, n_lm, n_em, n_me, n_mlt, false_or, or_false, true_or, or_true, false_and, and_false, true_and, and_true, not_false_eq_true, not_true_eq_false, if_true, if_false, if_pos, if_neg, am_b01, am_b0, am_b1, ne_eq, rx_P R, lc_eq, h0, sx_tall R B, sx_ahead R B]
    rw [show owL g (dk g h) p t ns h s (k + 1) = owS g (dk g h) p t ns h k (owL g (dk g h) p t ns h s k) from rfl]
    unfold owS
    by_cases e1 : k = p
    · rw [if_pos e1, if_neg (fun q => q.1.1 e1)]
    · rw [if_neg e1]
      by_cases e2 : ns = some k
      · rw [if_pos (by rw [e2]; rfl), if_neg (fun q => q.1.2 e2)]
      · rw [if_neg (fun q => e2 (by
          cases ns with
          | none => exact ((n_em (show k < 2147483648 by omega)).mp q).elim
          | some y => rw [(nI_eq (show k < 2 ^ 31 by omega) (by have := hns y rfl; omega)).mp q]))]
        by_cases e3 : ahd (gR g) (tl g k) t k p = true
        · rw [if_neg (by rw [e3]; decide), if_pos ⟨⟨e1, e2⟩, e3⟩]
          simp (disch := omega) only [rx_A R, sx_shadow R B, Option.bind_some, am_k_v, am_k_n, ↓n_in, nI_clamp, i_p1, nI_leI, nI_ltI, nI_eq, n_lt0, n_le0, n_eq0, n_gt0, n_lm, n_em, n_me, n_mlt, false_or, or_false, true_or, or_true, false_and, and_false, true_and, and_true, not_false_eq_true, not_true_eq_false, if_true, if_false, if_pos, if_neg, am_b01, am_b0, am_b1, ne_eq, b_X5_owedCells_112, b_X5_owedCells_119, D h hh]
        · rw [if_pos (by cases hx : ahd (gR g) (tl g k) t k p; rfl; exact absurd hx e3), if_neg (fun q => e3 q.2)]) with ⟨k, h1, h2, h3, h4⟩ | ⟨h1, h2⟩
  · refine h4.trans ?_
    try dsimp only
    rw [b_X5_owedCells_39]
    simp (disch := omega) only [Option.bind_some, am_k_v, am_k_n, ↓n_in, nI_clamp, i_p1, nI_leI, nI_ltI, nI_eq, n_lt0, n_le0, n_eq0, n_gt0, n_lm, n_em, n_me, n_mlt, false_or, or_false, true_or, or_true, false_and, and_false, true_and, and_true, not_false_eq_true, not_true_eq_false, if_true, if_false, if_pos, if_neg, am_b01, am_b0, am_b1, ne_eq, rx_P R, lc_eq, h2, fin]
    have := owL_0 h2 (gP g - k)
    rw [show k + (gP g - k) = gP g by omega] at this
    unfold owC
    rw [hs, this]
  · refine h2.trans ?_
    try dsimp only
    rw [b_X5_owedCells_39]
    simp (disch := omega) only [Option.bind_some, am_k_v, am_k_n, ↓n_in, nI_clamp, i_p1, nI_leI, nI_ltI, nI_eq, n_lt0, n_le0, n_eq0, n_gt0, n_lm, n_em, n_me, n_mlt, false_or, or_false, true_or, or_true, false_and, and_false, true_and, and_true, not_false_eq_true, not_true_eq_false, if_true, if_false, if_pos, if_neg, am_b01, am_b0, am_b1, ne_eq, rx_P R, fin]
    unfold owC
    rw [hs]
end
