/-! m's darkAt -/
def dark (W D : Nat) (H : Nat → Int32) (gx gy : Int) (len : Nat) : Nat → Nat → Int64 → Int64
  | 0, _, s => s
  | n + 1, c, s => dark W D H gx gy len n (c + 1) (s ||| (if H c ≤ 0 then 0 else ray W D H gx gy ((H c).toNatClampNeg * len) c 0))
/-- m's hours and houses -/
def mHr (h : Nat) (gx gy : Int) (len : Nat) (I : Nat → Nat → Int32) : Prop := (h < 6 ∧ len ≤ 3 ∧ I 85 h = nI len) ∧ ((I 83 h).toInt = gx ∧ -1 ≤ gx ∧ gx ≤ 1) ∧ ((I 84 h).toInt = gy ∧ -1 ≤ gy ∧ gy ≤ 1)
def mHs (I : Nat → Nat → Int32) : Prop := ∀ c, c < 48 → ∃ t, t ≤ 9 ∧ I 82 c = nI t
theorem sp_shadow {Ls : Nat} {xs : Nat → Int32} (I : Nat → Nat → Int32) (J : Nat → Nat → Int64) {W D h len t c : Nat} {gx gy : Int} (hG : mG W D I) (hH : mHr h gx gy len I) (ht : t ≤ 100) (hc : c < W * D) : am_ev (am_tbl Ls xs) 27 (0, [(0, .ref 81), (1, .int (nI c)), (2, .int (nI t)), (3, .int (nI h))], [], (am_sh, I, J)) = some (some (.long (ray W D (I 82) gx gy (t * len) c 0)), (am_sh, I, J)) := by
  obtain ⟨⟨hh, hlen, hI⟩, hgx, hgy⟩ := hH
  have hG2 := hG
  obtain ⟨⟨hW, hD⟩, ⟨w1, w2, d1, d2⟩, hWD⟩ := hG2
  have hne : ¬ I 81 0 = 0 := by
    rw [hW]
    intro e
    have := congrArg Int32.toInt e
    rw [nI_toInt (by omega), i_0] at this
    omega
  have htl : t * len ≤ 100 * 3 := Nat.mul_le_mul ht hlen
  rw [b_X9_shadowOf_0, if_neg hne, if_neg hne, hW, pk_rem (by omega) (by omega) (by omega), pk_div (by omega) (by omega) (by omega)]
  exact sp_ray I J hG hh hgx hgy (by rw [hI, pk_mul]) (by omega) (t * len) 0 c 0 (by omega) hc
theorem sp_darkl {Ls : Nat} {xs : Nat → Int32} (I : Nat → Nat → Int32) (J : Nat → Nat → Int64) {W D h len : Nat} {gx gy : Int} (hG : mG W D I) (hH : mHr h gx gy len I) (hHs : mHs I) : ∀ (n c : Nat) (s : Int64), c + n = W * D → am_ev (am_tbl Ls xs) 28 (5, [(0, .ref 81), (1, .int (nI h)), (2, .long s), (4, .int (nI c))], [], (am_sh, I, J)) = some (some (.long (dark W D (I 82) gx gy len n c s)), (am_sh, I, J)) := by
  have hG2 := hG
  obtain ⟨⟨hW, hD⟩, ⟨w1, w2, d1, d2⟩, hWD⟩ := hG2
  have hcl : I 81 0 * I 81 1 = nI (W * D) := by rw [hW, hD, pk_mul]
  intro n
  induction n with
  | zero =>
    intro c s hc
    rw [b_X9_darkAt_5, sp_cells, Option.bind_some, am_k_v, b_X9_darkAt_11, hcl, if_pos (nI_le (by omega) (by omega))]
    rfl
  | succ n ih =>
    intro c s hc
    rw [b_X9_darkAt_5, sp_cells, Option.bind_some, am_k_v, b_X9_darkAt_11, hcl, if_neg (nI_ge (by omega) (by omega)), if_pos (i_in (show c < 48 by omega) (by omega)), if_pos (i_in (show c < 48 by omega) (by omega)), nI_clamp (show c < 2 ^ 31 by omega)]
    obtain ⟨t, ht, hIt⟩ := hHs c (by omega)
    unfold dark
    by_cases h0 : I 82 c ≤ 0
    · rw [if_pos h0, if_pos h0, b_X9_darkAt_43, i_p1]
      exact ih (c + 1) _ (by omega)
    · rw [if_neg h0, if_neg h0, hIt, sp_shadow I J hG hH (by omega) (by omega), Option.bind_some, am_k_v, b_X9_darkAt_39, b_X9_darkAt_43, i_p1, nI_clamp (show t < 2 ^ 31 by omega)]
      exact ih (c + 1) _ (by omega)
theorem sp_dark {Ls : Nat} {xs : Nat → Int32} (I : Nat → Nat → Int32) (J : Nat → Nat → Int64) {W D h len : Nat} {gx gy : Int} (hG : mG W D I) (hH : mHr h gx gy len I) (hHs : mHs I) : am_ev (am_tbl Ls xs) 28 (0, [(0, .ref 81), (1, .int (nI h))], [], (am_sh, I, J)) = some (some (.long (dark W D (I 82) gx gy len (W * D) 0 0)), (am_sh, I, J)) := by
  rw [b_X9_darkAt_0]
  exact sp_darkl I J hG hH hHs (W * D) 0 0 (by omega)
