/-! cells by X and Y; names; who there is -/
def cix (g : Vg) (a b : Nat) : Nat := b * gW g + a
def nam (g : Vg) (c : Nat) : Nat := 10 * (c % gW g) + c / gW g
theorem cix_lt {g : Vg} {a b : Nat} (ha : a < gW g) (hb : b < gD g) : cix g a b < gW g * gD g := by
  unfold cix
  calc b * gW g + a < b * gW g + gW g := by omega
    _ = (b + 1) * gW g := by rw [Nat.succ_mul]
    _ ≤ gD g * gW g := Nat.mul_le_mul_right _ hb
    _ = gW g * gD g := Nat.mul_comm _ _
theorem cix_mod {g : Vg} {a b : Nat} (ha : a < gW g) : cix g a b % gW g = a := by
  unfold cix; rw [Nat.mul_comm, Nat.mul_add_mod, Nat.mod_eq_of_lt ha]
theorem cix_div {g : Vg} {a b : Nat} (ha : a < gW g) : cix g a b / gW g = b := by
  unfold cix; rw [Nat.mul_comm, Nat.mul_add_div (by omega), Nat.div_eq_of_lt ha, Nat.add_zero]
theorem cix_of {g : Vg} (c : Nat) : cix g (c % gW g) (c / gW g) = c := by unfold cix; rw [Nat.mul_comm]; exact Nat.div_add_mod c (gW g)
theorem x_cix {g : Vg} {a b : Nat} : nI b * nI (gW g) + nI a = nI (cix g a b) := by rw [pk_mul, nI_add]; rfl
theorem m_cix {g : Vg} {a b : Nat} : nI (gW g) * nI b + nI a = nI (cix g a b) := by rw [pk_mul, nI_add, Nat.mul_comm]; rfl
/-- an int is one of 0 .. n - 1 -/
def rng (n : Nat) (x : Int32) : Bool := decide (¬ x < 0 ∧ ¬ nI n ≤ x)
theorem rng_or (n : Nat) (hn : n < 2147483648) (x : Int32) : (∃ j, j < n ∧ x = nI j) ∨ rng n x = false := by
  rcases pk_ix x (show n < 2 ^ 31 by omega) with h | h | h
  · exact Or.inr (decide_eq_false fun q => q.1 h)
  · exact Or.inr (decide_eq_false fun q => q.2 h)
  · exact Or.inl h
theorem rng_t {n j : Nat} (h : j < n ∧ n < 2147483648) : rng n (nI j) = true := decide_eq_true ⟨nI_pos (by omega), nI_ge h.1 (by omega)⟩
theorem rng_f {n : Nat} {x : Int32} (h : rng n x = false) : x < 0 ∨ nI n ≤ x := by
  have := of_decide_eq_false h
  by_cases q : x < 0
  · exact Or.inl q
  · refine Or.inr (Classical.byContradiction fun r => this ⟨q, r⟩)
theorem m_in {n : Nat} (hn : n < 1000000) {x : Int32} : (¬ x < 0 ∧ ¬ nI n - 1 < x) ↔ (¬ x < 0 ∧ ¬ nI n ≤ x) := by
  rw [i_ltN, i_ltN, i_leN, i_sub (by rw [nI_toInt (by omega), i_1]; omega) (by rw [nI_toInt (by omega), i_1]; omega), nI_toInt (by omega), i_0, i_1]
  omega
theorem n_rem {a d : Nat} : nI a - nI (a / d * d) = nI (a % d) := by
  rw [pk_sub (Nat.div_mul_le_self a d)]
  have := Nat.div_add_mod a d
  rw [Nat.mul_comm] at this
  rw [show a - a / d * d = a % d by omega]
section
variable {Ls : Nat} {xs : Nat → Int32} {g : Vg} {I : Nat → Nat → Int32} {J : Nat → Nat → Int64}
theorem sx_personA (R : RX g I) (p : Int32) : am_ev (am_tbl Ls xs) 135 (0, [(0, .ref 18), (1, .int p)], [], (am_sh, I, J)) = some (some (.int (am_b (rng (gP g) p))), (am_sh, I, J)) := by
  rw [sx_hasPerson, rx_P R]; rfl
theorem sx_hourA (R : RX g I) (p : Int32) : am_ev (am_tbl Ls xs) 134 (0, [(0, .ref 18), (1, .int p)], [], (am_sh, I, J)) = some (some (.int (am_b (rng (gN g) p))), (am_sh, I, J)) := by
  rw [sx_hasHour, rx_N R]; rfl
theorem sx_cellA (R : RX g I) (p : Int32) : am_ev (am_tbl Ls xs) 133 (0, [(0, .ref 18), (1, .int p)], [], (am_sh, I, J)) = some (some (.int (am_b (rng (gW g * gD g) p))), (am_sh, I, J)) := by
  rw [sx_hasCell, rx_C R]; rfl
theorem sp_personA (R : RM g I) (B : BG g) (p : Int32) : am_ev (am_tbl Ls xs) 5 (0, [(0, .ref 81), (1, .int p)], [], (am_sh, I, J)) = some (some (.int (am_b (rng (gP g) p))), (am_sh, I, J)) := by
  have b1 := bg_1 B
  rw [sp_isPerson, rm_P R]
  unfold rng
  rw [decide_eq_decide.mpr (m_in (show gP g < 1000000 by omega))]
theorem sp_hourA (R : RM g I) (B : BG g) (p : Int32) : am_ev (am_tbl Ls xs) 6 (0, [(0, .ref 81), (1, .int p)], [], (am_sh, I, J)) = some (some (.int (am_b (rng (gN g) p))), (am_sh, I, J)) := by
  have b1 := bg_1 B
  rw [sp_isHour, rm_N R]
  unfold rng
  rw [decide_eq_decide.mpr (m_in (show gN g < 1000000 by omega))]
theorem sp_cellA (R : RM g I) (B : BG g) (x y : Int32) : am_ev (am_tbl Ls xs) 4 (0, [(0, .ref 81), (1, .int x), (2, .int y)], [], (am_sh, I, J)) = some (some (.int (am_b (rng (gW g) x && rng (gD g) y))), (am_sh, I, J)) := by
  have b1 := bg_1 B
  rw [sp_isCell, rm_W R, rm_D R]
  unfold rng
  rw [← Bool.decide_and]
  rw [decide_eq_decide.mpr (show _ ↔ ((¬ x < 0 ∧ ¬ nI (gW g) ≤ x) ∧ (¬ y < 0 ∧ ¬ nI (gD g) ≤ y)) from and_congr (m_in (show gW g < 1000000 by omega)) (m_in (show gD g < 1000000 by omega)))]
theorem sx_cellAtT (R : RX g I) (B : BG g) {a b : Nat} (ha : a < gW g) (hb : b < gD g) : am_ev (am_tbl Ls xs) 137 (0, [(0, .ref 18), (1, .int (nI a)), (2, .int (nI b))], [], (am_sh, I, J)) = some (some (.int (nI (cix g a b))), (am_sh, I, J)) := by
  have b1 := bg_1 B
  rw [sx_cellAt]
  simp (disch := omega) only [Option.bind_some, am_k_v, am_k_n, ↓n_in, nI_clamp, i_p1, nI_leI, nI_ltI, nI_eq, n_lt0, n_le0, n_eq0, n_gt0, n_lm, n_em, n_me, n_mlt, false_or, or_false, true_or, or_true, false_and, and_false, true_and, and_true, not_false_eq_true, not_true_eq_false, if_true, if_false, if_pos, if_neg, am_b01, am_b0, am_b1, ne_eq, rx_W R, rx_D R, x_cix, Nat.not_le, and_self, ha, hb]
theorem sx_cellAtF (R : RX g I) (B : BG g) {x y : Int32} (h : rng (gW g) x = false ∨ rng (gD g) y = false) : am_ev (am_tbl Ls xs) 137 (0, [(0, .ref 18), (1, .int x), (2, .int y)], [], (am_sh, I, J)) = some (some (.int ((-1))), (am_sh, I, J)) := by
  have b1 := bg_1 B
  rw [sx_cellAt, if_neg]
  rintro ⟨⟨h1, h2⟩, h3, h4⟩
  rw [rx_W R] at h3
  rw [rx_D R] at h4
  rcases (show (x < 0 ∨ nI (gW g) ≤ x) ∨ (y < 0 ∨ nI (gD g) ≤ y) from h.elim (fun q => Or.inl (rng_f q)) (fun q => Or.inr (rng_f q))) with (q | q) | (q | q)
  · exact h1 q
  · exact h3 q
  · exact h2 q
  · rw [i_ltN] at h4; rw [i_leN] at q; omega
theorem sx_columnOf (R : RX g I) (B : BG g) {c : Nat} (hc : c < gW g * gD g) : am_ev (am_tbl Ls xs) 138 (0, [(0, .ref 18), (1, .int (nI c))], [], (am_sh, I, J)) = some (some (.int (nI (c % gW g))), (am_sh, I, J)) := by
  have b1 := bg_1 B
  simp (disch := omega) only [b_X2_columnOf_0, b_X2_columnOf_5, b_X2_columnOf_18, Option.bind_some, am_k_v, am_k_n, ↓n_in, nI_clamp, i_p1, nI_leI, nI_ltI, nI_eq, n_lt0, n_le0, n_eq0, n_gt0, n_lm, n_em, n_me, n_mlt, false_or, or_false, true_or, or_true, false_and, and_false, true_and, and_true, not_false_eq_true, not_true_eq_false, if_true, if_false, if_pos, if_neg, am_b01, am_b0, am_b1, ne_eq, sx_hasCell' R B, decide_eq_false_iff_not, rx_x R]
theorem sx_lineOf (R : RX g I) (B : BG g) {c : Nat} (hc : c < gW g * gD g) : am_ev (am_tbl Ls xs) 139 (0, [(0, .ref 18), (1, .int (nI c))], [], (am_sh, I, J)) = some (some (.int (nI (c / gW g))), (am_sh, I, J)) := by
  have b1 := bg_1 B
  simp (disch := omega) only [b_X2_lineOf_0, b_X2_lineOf_5, b_X2_lineOf_18, Option.bind_some, am_k_v, am_k_n, ↓n_in, nI_clamp, i_p1, nI_leI, nI_ltI, nI_eq, n_lt0, n_le0, n_eq0, n_gt0, n_lm, n_em, n_me, n_mlt, false_or, or_false, true_or, or_true, false_and, and_false, true_and, and_true, not_false_eq_true, not_true_eq_false, if_true, if_false, if_pos, if_neg, am_b01, am_b0, am_b1, ne_eq, sx_hasCell' R B, decide_eq_false_iff_not, rx_y R]
theorem sx_nameOf (R : RX g I) (B : BG g) {c : Nat} (hc : c < gW g * gD g) : am_ev (am_tbl Ls xs) 140 (0, [(0, .ref 18), (1, .int (nI c))], [], (am_sh, I, J)) = some (some (.int (nI (nam g c))), (am_sh, I, J)) := by
  have b1 := bg_1 B
  simp (disch := omega) only [b_X2_nameOf_0, b_X2_nameOf_5, b_X2_nameOf_28, Option.bind_some, am_k_v, am_k_n, ↓n_in, nI_clamp, i_p1, nI_leI, nI_ltI, nI_eq, n_lt0, n_le0, n_eq0, n_gt0, n_lm, n_em, n_me, n_mlt, false_or, or_false, true_or, or_true, false_and, and_false, true_and, and_true, not_false_eq_true, not_true_eq_false, if_true, if_false, if_pos, if_neg, am_b01, am_b0, am_b1, ne_eq, sx_hasCell' R B, decide_eq_false_iff_not, rx_y R, rx_x R, show (10 : Int32) = nI 10 from rfl, pk_mul, nI_add]
  rfl
theorem sx_nameOf1 (R : RX g I) : am_ev (am_tbl Ls xs) 140 (0, [(0, .ref 18), (1, .int ((-1)))], [], (am_sh, I, J)) = some (some (.int ((-1))), (am_sh, I, J)) := by
  simp (disch := omega) only [b_X2_nameOf_0, b_X2_nameOf_5, b_X2_nameOf_28, Option.bind_some, am_k_v, am_k_n, ↓n_in, nI_clamp, i_p1, nI_leI, nI_ltI, nI_eq, n_lt0, n_le0, n_eq0, n_gt0, n_lm, n_em, n_me, n_mlt, false_or, or_false, true_or, or_true, false_and, and_false, true_and, and_true, not_false_eq_true, not_true_eq_false, if_true, if_false, if_pos, if_neg, am_b01, am_b0, am_b1, ne_eq, sx_cellA R, show rng (gW g * gD g) (-1) = false from decide_eq_false (fun q => q.1 (by decide))]
theorem sp_told10 (R : RM g I) (B : BG g) {c : Nat} (hc : c < gW g * gD g) : am_ev (am_tbl Ls xs) 8 (0, [(0, .ref 81), (1, .int (nI c))], [], (am_sh, I, J)) = some (some (.int (nI (nam g c))), (am_sh, I, J)) := by
  have b1 := bg_1 B
  have h0 : gW g ≠ 0 := fun q => by rw [q, Nat.zero_mul] at hc; omega
  simp (disch := omega) only [b_X9_told10_0, rm_W R, n_eq0, if_neg, n_rem, pk_div, show (10 : Int32) = nI 10 from rfl, pk_mul, nI_add]
  rfl
end
