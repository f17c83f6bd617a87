/-! NUMBERS, AND RAYS -/
theorem i_add {a b : Int32} (h1 : -2147483648 ≤ a.toInt + b.toInt) (h2 : a.toInt + b.toInt < 2147483648) : (a + b).toInt = a.toInt + b.toInt := by
  rw [Int32.toInt_add]
  exact Int.bmod_eq_of_le (by omega) (by omega)
theorem i_sub {a b : Int32} (h1 : -2147483648 ≤ a.toInt - b.toInt) (h2 : a.toInt - b.toInt < 2147483648) : (a - b).toInt = a.toInt - b.toInt := by
  rw [Int32.toInt_sub]
  exact Int.bmod_eq_of_le (by omega) (by omega)
theorem i_eqN {a : Int32} {n : Nat} (hn : n < 2147483648) (h : a.toInt = n) : a = nI n := Int32.toInt_inj.mp (by rw [h, nI_toInt (by omega)])
theorem i_ltN (a b : Int32) : a < b ↔ a.toInt < b.toInt := Int32.lt_iff_toInt_lt
theorem i_leN (a b : Int32) : a ≤ b ↔ a.toInt ≤ b.toInt := Int32.le_iff_toInt_le
theorem i_0 : (0 : Int32).toInt = 0 := rfl
theorem i_1 : (1 : Int32).toInt = 1 := rfl
/-- the index guard of a row, by numbers -/
theorem i_in {n N : Nat} (h : n < N) (hN : N < 2147483648) : ¬ (nI n < 0 ∨ N ≤ (nI n).toNatClampNeg) := by
  rw [nI_clamp (by omega), i_ltN, nI_toInt (by omega), i_0]
  omega
/-- the cell one step on, none beyond the ground -/
def nb (W D : Nat) (gx gy : Int) (c : Nat) : Option Nat := if (0 ≤ ((c % W : Nat) : Int) + gx ∧ ((c % W : Nat) : Int) + gx < W) ∧ 0 ≤ ((c / W : Nat) : Int) + gy ∧ ((c / W : Nat) : Int) + gy < D then some ((((c / W : Nat) : Int) + gy).toNat * W + (((c % W : Nat) : Int) + gx).toNat) else none
def cbit (c : Nat) : Int64 := 1 <<< (Int32.toInt64 (nI c) &&& 63)
/-- a shadow: n steps on from c, to the first house -/
def ray (W D : Nat) (H : Nat → Int32) (gx gy : Int) : Nat → Nat → Int64 → Int64
  | 0, _, s => s
  | n + 1, c, s => match nb W D gx gy c with
    | some c' => if H c' ≤ 0 then ray W D H gx gy n c' (s ||| cbit c') else s
    | none => s
theorem nb_lt {W D : Nat} {gx gy : Int} {c c' : Nat} (h : nb W D gx gy c = some c') : c' < W * D ∧ c' % W = (((c % W : Nat) : Int) + gx).toNat ∧ c' / W = (((c / W : Nat) : Int) + gy).toNat ∧ (0 ≤ ((c % W : Nat) : Int) + gx ∧ ((c % W : Nat) : Int) + gx < W) ∧ 0 ≤ ((c / W : Nat) : Int) + gy ∧ ((c / W : Nat) : Int) + gy < D := by
  unfold nb at h
  split at h
  · rename_i hc
    obtain ⟨⟨h1, h2⟩, h3, h4⟩ := hc
    cases h
    generalize hx : (((c % W : Nat) : Int) + gx).toNat = x
    generalize hy : (((c / W : Nat) : Int) + gy).toNat = y
    have hxW : x < W := by omega
    have hyD : y < D := by omega
    refine ⟨?_, ?_, ?_, ⟨h1, h2⟩, h3, h4⟩
    · calc y * W + x < y * W + W := by omega
        _ = (y + 1) * W := by rw [Nat.succ_mul]
        _ ≤ D * W := Nat.mul_le_mul_right W hyD
        _ = W * D := Nat.mul_comm D W
    · rw [Nat.mul_comm, Nat.mul_add_mod, Nat.mod_eq_of_lt hxW]
    · rw [Nat.mul_comm, Nat.mul_add_div (by omega), Nat.div_eq_of_lt hxW, Nat.add_zero]
  · cases h
