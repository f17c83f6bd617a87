/-! m's shadowOf -/
def mG (W D : Nat) (I : Nat → Nat → Int32) : Prop := (I 81 0 = nI W ∧ I 81 1 = nI D) ∧ (1 ≤ W ∧ W ≤ 9 ∧ 1 ≤ D ∧ D ≤ 9) ∧ W * D ≤ 48
theorem i_p1 (k : Nat) : nI k + Int32.ofInt 1 = nI (k + 1) := nI_1 k
theorem sp_ray {Ls : Nat} {xs : Nat → Int32} (I : Nat → Nat → Int32) (J : Nat → Nat → Int64) {W D h N : Nat} {gx gy : Int} {a2 : Int32} (hG : mG W D I) (hh : h < 6) (hgx : (I 83 h).toInt = gx ∧ -1 ≤ gx ∧ gx ≤ 1) (hgy : (I 84 h).toInt = gy ∧ -1 ≤ gy ∧ gy ≤ 1) (hN : a2 * I 85 h = nI N) (hN2 : N < 1000) :
    ∀ (n k c : Nat) (s : Int64), k + n = N → c < W * D → am_ev (am_tbl Ls xs) 27 (22, [(0, .ref 81), (2, .int a2), (3, .int (nI h)), (4, .long s), (6, .int (nI (c % W))), (7, .int (nI (c / W))), (8, .int (nI k))], [], (am_sh, I, J)) = some (some (.long (ray W D (I 82) gx gy n c s)), (am_sh, I, J)) := by
  obtain ⟨⟨hW, hD⟩, ⟨w1, w2, d1, d2⟩, hWD⟩ := hG
  intro n
  induction n with
  | zero =>
    intro k c s hk hc
    rw [b_X9_shadowOf_22, if_pos (i_in hh (by omega)), nI_clamp (show h < 2 ^ 31 by omega), hN, if_pos (nI_le (by omega) (by omega))]
    rfl
  | succ n ih =>
    intro k c s hk hc
    have hcW : c % W < W := Nat.mod_lt _ (by omega)
    have hcD : c / W < D := Nat.div_lt_of_lt_mul hc
    have hn0 : (0 : Int) ≤ ((c / W : Nat) : Int) := Int.natCast_nonneg _
    have hn1 : (0 : Int) ≤ ((c % W : Nat) : Int) := Int.natCast_nonneg _
    have hn2 : ((c / W : Nat) : Int) < D := by exact_mod_cast hcD
    have eX : (nI (c % W) + I 83 h).toInt = ((c % W : Nat) : Int) + gx := by
      rw [i_add] <;> rw [nI_toInt (by omega), hgx.1] <;> omega
    have eY : (nI (c / W) + I 84 h).toInt = ((c / W : Nat) : Int) + gy := by
      rw [i_add] <;> rw [nI_toInt (by omega), hgy.1] <;> omega
    have eW : (I 81 0 - 1).toInt = (W : Int) - 1 := by
      rw [hW, i_sub] <;> rw [nI_toInt (by omega), i_1] <;> omega
    have eD : (I 81 1 - 1).toInt = (D : Int) - 1 := by
      rw [hD, i_sub] <;> rw [nI_toInt (by omega), i_1] <;> omega
    rw [b_X9_shadowOf_22, if_pos (i_in hh (by omega)), if_pos (i_in hh (by omega)), if_pos (i_in hh (by omega)), nI_clamp (show h < 2 ^ 31 by omega), hN, if_neg (nI_ge (by omega) (by omega)), sp_isCell, Option.bind_some, am_k_v, b_X9_shadowOf_65]
    simp only [i_ltN, eX, eY, eW, eD, i_0, am_b0]
    cases hb : nb W D gx gy c with
    | none =>
      have hno : ¬ ((¬ ((c % W : Nat) : Int) + gx < 0 ∧ ¬ (W : Int) - 1 < ((c % W : Nat) : Int) + gx) ∧ ¬ ((c / W : Nat) : Int) + gy < 0 ∧ ¬ (D : Int) - 1 < ((c / W : Nat) : Int) + gy) := by
        intro hq
        unfold nb at hb
        rw [if_pos (by omega)] at hb
        cases hb
      rw [if_pos (decide_eq_false hno), b_X9_shadowOf_86]
      unfold ray
      rw [hb]
    | some c' =>
      obtain ⟨q1, q2, q3, q4, q5⟩ := nb_lt hb
      have hyes : (¬ ((c % W : Nat) : Int) + gx < 0 ∧ ¬ (W : Int) - 1 < ((c % W : Nat) : Int) + gx) ∧ ¬ ((c / W : Nat) : Int) + gy < 0 ∧ ¬ (D : Int) - 1 < ((c / W : Nat) : Int) + gy := by omega
      rw [if_neg (by rw [decide_eq_true hyes]; decide)]
      have fX : nI (c % W) + I 83 h = nI (c' % W) := i_eqN (by omega) (by rw [eX, q2]; omega)
      have fY : nI (c / W) + I 84 h = nI (c' / W) := i_eqN (by omega) (by rw [eY, q3]; omega)
      have fC : I 81 0 * nI (c' / W) + nI (c' % W) = nI c' := by rw [hW, pk_mul, nI_add, Nat.div_add_mod]
      rw [fX, fY, fC]
      have hg : ¬ ((nI c').toInt < 0 ∨ 48 ≤ (nI c').toNatClampNeg) := by
        rw [nI_clamp (by omega), nI_toInt (by omega)]; omega
      rw [if_pos hg, nI_clamp (show c' < 2 ^ 31 by omega)]
      unfold ray
      rw [hb]
      dsimp only
      by_cases hH : I 82 c' ≤ 0
      · rw [if_pos hH, if_pos hH, i_p1]
        exact ih (k + 1) c' _ (by omega) q1
      · rw [if_neg hH, if_neg hH, b_X9_shadowOf_86]
