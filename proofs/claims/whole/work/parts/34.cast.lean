/-! m: has, tallOf, bits -/
def hasb (a : Int64) (k : Int32) : Bool := decide (((a >>> (Int32.toInt64 k &&& 63)) &&& 1) = 1)
theorem sp_has {Ls : Nat} {xs : Nat → Int32} (I : Nat → Nat → Int32) (J : Nat → Nat → Int64) (a : Int64) (k : Int32) : am_ev (am_tbl Ls xs) 2 (0, [(0, .long a), (2, .int k)], [], (am_sh, I, J)) = some (some (.int (am_b (hasb a k))), (am_sh, I, J)) := by
  rw [b_X9_has_0, b_X9_has_15, b_X9_has_15, if_pos (Or.inl rfl), if_pos (Or.inr rfl)]
  unfold hasb
  by_cases h : ((a >>> (Int32.toInt64 k &&& 63)) &&& 1) = 1
  · rw [if_neg (by rw [lc_ne]; exact fun q => q h), decide_eq_true h]; rfl
  · rw [if_pos (by rw [lc_ne]; exact h), decide_eq_false h]; rfl
def mtall (I : Nat → Nat → Int32) (p : Nat) : Int32 := if nI p ≠ I 81 40 then (if I 89 p = 0 then I 88 p else I 88 p - 1) else I 81 41
theorem sp_tall {Ls : Nat} {xs : Nat → Int32} (I : Nat → Nat → Int32) (J : Nat → Nat → Int64) {p : Nat} (hp : p < 6) : am_ev (am_tbl Ls xs) 29 (0, [(0, .ref 81), (1, .int (nI p))], [], (am_sh, I, J)) = some (some (.int (mtall I p)), (am_sh, I, J)) := by
  rw [b_X9_tallOf_0, if_pos (i_in hp (by omega)), if_pos (i_in hp (by omega)), if_pos (i_in hp (by omega)), nI_clamp (show p < 2 ^ 31 by omega), b_X9_tallOf_41, b_X9_tallOf_41, b_X9_tallOf_41]
  unfold mtall
  by_cases h1 : nI p ≠ I 81 40
  · rw [if_pos h1, if_pos h1]
    by_cases h2 : I 89 p = 0
    · rw [if_pos h2, if_pos h2]
    · rw [if_neg h2, if_neg h2]
  · rw [if_neg h1, if_neg h1]
/-- how many of n bits, from k on -/
def cnt (a : Int64) : Nat → Nat → Int32 → Int32
  | 0, _, s => s
  | n + 1, k, s => cnt a n (k + 1) (s + Int64.toInt32 ((a >>> (Int32.toInt64 (nI k) &&& 63)) &&& 1))
theorem sp_bits {Ls : Nat} {xs : Nat → Int32} (I : Nat → Nat → Int32) (J : Nat → Nat → Int64) (a : Int64) : am_ev (am_tbl Ls xs) 3 (0, [(0, .long a)], [], (am_sh, I, J)) = some (some (.int (cnt a 48 0 0)), (am_sh, I, J)) := by
  have key : ∀ (n k : Nat) (s : Int32), k + n = 48 → am_ev (am_tbl Ls xs) 3 (4, [(0, .long a), (2, .int s), (3, .int (nI k))], [], (am_sh, I, J)) = some (some (.int (cnt a n k s)), (am_sh, I, J)) := by
    intro n
    induction n with
    | zero =>
      intro k s hk
      rw [b_X9_bits_4, if_pos (show (48 : Int32) ≤ nI k from nI_le (a := 48) (by omega) (by omega))]
      rfl
    | succ n ih =>
      intro k s hk
      rw [b_X9_bits_4, if_neg (show ¬ (48 : Int32) ≤ nI k from nI_ge (b := 48) (by omega) (by omega)), i_p1]
      exact ih (k + 1) _ (by omega)
  rw [b_X9_bits_0]
  exact key 48 0 0 (by omega)
/-- what p casts at hour h where d is dark -/
def mcast (W D : Nat) (gx gy : Int) (len : Nat) (I : Nat → Nat → Int32) (p : Nat) (d : Int64) : Int64 := if nI p = I 81 39 then 0 else if hasb d (I 87 p) = true then 0 else ray W D (I 82) gx gy ((mtall I p).toNatClampNeg * len) (I 87 p).toNatClampNeg 0
theorem sp_cast {Ls : Nat} {xs : Nat → Int32} (I : Nat → Nat → Int32) (J : Nat → Nat → Int64) {W D h len p c t : Nat} {gx gy : Int} {d : Int64} (hG : mG W D I) (hH : mHr h gx gy len I) (hp : p < 6) (hat : I 87 p = nI c) (hc : c < W * D) (htl : mtall I p = nI t) (ht : t ≤ 100) : am_ev (am_tbl Ls xs) 30 (0, [(0, .ref 81), (1, .int (nI p)), (2, .int (nI h)), (3, .long d)], [], (am_sh, I, J)) = some (some (.long (mcast W D gx gy len I p d)), (am_sh, I, J)) := by
  have hWD := hG.2.2
  rw [b_X9_castBy_0, b_X9_castBy_21, b_X9_castBy_41, if_pos (i_in hp (by omega)), nI_clamp (show p < 2 ^ 31 by omega), sp_has, Option.bind_some, am_k_v, b_X9_castBy_18, b_X9_castBy_21, b_X9_castBy_41, if_pos (i_in hp (by omega)), nI_clamp (show p < 2 ^ 31 by omega), sp_tall I J hp, Option.bind_some, am_k_v, b_X9_castBy_37, hat, htl, sp_shadow I J hG hH ht hc, Option.bind_some, am_k_v, b_X9_castBy_41_2]
  unfold mcast
  rw [hat, htl, nI_clamp (show t < 2 ^ 31 by omega), nI_clamp (show c < 2 ^ 31 by omega)]
  by_cases h1 : nI p = I 81 39
  · rw [if_pos h1, if_pos h1]
  · rw [if_neg h1, if_neg h1]
    cases hb : hasb d (nI c)
    · rw [if_pos (by decide), if_neg (by decide)]
    · rw [if_neg (by decide), if_pos rfl]
