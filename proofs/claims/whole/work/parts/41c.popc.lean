/-! Long.bitCount, the end -/
theorem pn_64 (n : Nat) : pn n 64 = pc8 (n % 256) + (pc8 (n / 256 % 256) + (pc8 (n / 256 / 256 % 256) + (pc8 (n / 256 / 256 / 256 % 256) + (pc8 (n / 256 / 256 / 256 / 256 % 256) + (pc8 (n / 256 / 256 / 256 / 256 / 256 % 256) + (pc8 (n / 256 / 256 / 256 / 256 / 256 / 256 % 256) + (pc8 (n / 256 / 256 / 256 / 256 / 256 / 256 / 256 % 256) + (0)))))))) := by
  show pn n (8 + (8 + (8 + (8 + (8 + (8 + (8 + (8 + 0)))))))) = _
  rw [pn_8, pn_8, pn_8, pn_8, pn_8, pn_8, pn_8, pn_8]
  rfl
theorem bmp_8 (f : Nat → Nat) (n : Nat) : bmp f 8 n = (((((((0 * 256 + f (n / 256 / 256 / 256 / 256 / 256 / 256 / 256 % 256)) * 256 + f (n / 256 / 256 / 256 / 256 / 256 / 256 % 256)) * 256 + f (n / 256 / 256 / 256 / 256 / 256 % 256)) * 256 + f (n / 256 / 256 / 256 / 256 % 256)) * 256 + f (n / 256 / 256 / 256 % 256)) * 256 + f (n / 256 / 256 % 256)) * 256 + f (n / 256 % 256)) * 256 + f (n % 256) := rfl
theorem sx_bitCount {Ls : Nat} {xs : Nat → Int32} {I : Nat → Nat → Int32} {J : Nat → Nat → Int64} (a : Int64) : am_ev (am_tbl Ls xs) 193 (0, [(0, .long a)], [], (am_sh, I, J)) = some (some (.int (nI (pcn a 64))), (am_sh, I, J)) := by
  rw [b_J13_bitCount_95d88_0]
  have s1 : ∀ x : Int64, uN (UInt64.toInt64 (Int64.toUInt64 x >>> (Int64.toUInt64 (Int32.toInt64 1) &&& Int64.toUInt64 63))) = uN x / 2 ^ 1 := fun x => uN_k x 1 (by decide) (by decide)
  have s2 : ∀ x : Int64, uN (UInt64.toInt64 (Int64.toUInt64 x >>> (Int64.toUInt64 (Int32.toInt64 2) &&& Int64.toUInt64 63))) = uN x / 2 ^ 2 := fun x => uN_k x 2 (by decide) (by decide)
  have s4 : ∀ x : Int64, uN (UInt64.toInt64 (Int64.toUInt64 x >>> (Int64.toUInt64 (Int32.toInt64 4) &&& Int64.toUInt64 63))) = uN x / 2 ^ 4 := fun x => uN_k x 4 (by decide) (by decide)
  have s8 : ∀ x : Int64, uN (UInt64.toInt64 (Int64.toUInt64 x >>> (Int64.toUInt64 (Int32.toInt64 8) &&& Int64.toUInt64 63))) = uN x / 2 ^ 8 := fun x => uN_k x 8 (by decide) (by decide)
  have s16 : ∀ x : Int64, uN (UInt64.toInt64 (Int64.toUInt64 x >>> (Int64.toUInt64 (Int32.toInt64 16) &&& Int64.toUInt64 63))) = uN x / 2 ^ 16 := fun x => uN_k x 16 (by decide) (by decide)
  have s32 : ∀ x : Int64, uN (UInt64.toInt64 (Int64.toUInt64 x >>> (Int64.toUInt64 (Int32.toInt64 32) &&& Int64.toUInt64 63))) = uN x / 2 ^ 32 := fun x => uN_k x 32 (by decide) (by decide)
  have ha : uN a < 256 ^ 8 := uN_lt a
  -- one step after the other
  generalize e1 : a - ((UInt64.toInt64 (Int64.toUInt64 a >>> (Int64.toUInt64 (Int32.toInt64 1) &&& Int64.toUInt64 63))) &&& 6148914691236517205) = v1
  have h1 : uN v1 = bmp (fun b => b - (b / 2 ^ 1 &&& 85)) 8 (uN a) := by
    rw [← pop_1 _ ha, ← e1, uN_sub (by rw [uN_and, s1]; exact Nat.le_trans Nat.and_le_left (Nat.div_le_self _ _)), uN_and, s1]
    rfl
  generalize e2 : (v1 &&& 3689348814741910323) + ((UInt64.toInt64 (Int64.toUInt64 v1 >>> (Int64.toUInt64 (Int32.toInt64 2) &&& Int64.toUInt64 63))) &&& 3689348814741910323) = v2
  have h2 : uN v2 = bmp (fun b => (fun b => (b &&& 51) + (b / 2 ^ 2 &&& 51)) ((fun b => b - (b / 2 ^ 1 &&& 85)) b)) 8 (uN a) := by
    rw [← bmp_comp (f := fun b => b - (b / 2 ^ 1 &&& 85)) (g := fun b => (b &&& 51) + (b / 2 ^ 2 &&& 51)) pop_d, ← h1, ← pop_2]
    rw [← e2, uN_add, uN_and, uN_and, s2]
    have hb := bmp_lt pop_e 8 (uN a)
    rw [← bmp_comp (f := fun b => b - (b / 2 ^ 1 &&& 85)) (g := fun b => (b &&& 51) + (b / 2 ^ 2 &&& 51)) pop_d, ← h1, ← pop_2] at hb
    exact Nat.mod_eq_of_lt hb
  generalize e3 : (v2 + (UInt64.toInt64 (Int64.toUInt64 v2 >>> (Int64.toUInt64 (Int32.toInt64 4) &&& Int64.toUInt64 63)))) &&& 1085102592571150095 = v3
  have h3 : uN v3 = bmp pc8 8 (uN a) := by
    rw [← bmp_cong pop_c 8 (uN a), ← pop_3 pop_b 8 (uN a), ← h2, ← e3, uN_and, uN_add, s4]
    rw [show uN 1085102592571150095 = bmp (fun _ => 15) 8 0 by decide +kernel]
    have hb := bmp_le pop_g 8 (uN a)
    rw [← h2] at hb
    rw [show (uN v2 + uN v2 / 2 ^ 4) % 18446744073709551616 = uN v2 + uN v2 / 2 ^ 4 from Nat.mod_eq_of_lt (by omega)]
  generalize e4 : v3 + (UInt64.toInt64 (Int64.toUInt64 v3 >>> (Int64.toUInt64 (Int32.toInt64 8) &&& Int64.toUInt64 63))) = v4
  generalize e5 : v4 + (UInt64.toInt64 (Int64.toUInt64 v4 >>> (Int64.toUInt64 (Int32.toInt64 16) &&& Int64.toUInt64 63))) = v5
  generalize e6 : v5 + (UInt64.toInt64 (Int64.toUInt64 v5 >>> (Int64.toUInt64 (Int32.toInt64 32) &&& Int64.toUInt64 63))) = v6
  have h4 : uN v4 = (uN v3 + uN v3 / 2 ^ 8) % 18446744073709551616 := by rw [← e4, uN_add, s8]
  have h5 : uN v5 = (uN v4 + uN v4 / 2 ^ 16) % 18446744073709551616 := by rw [← e5, uN_add, s16]
  have h6 : uN v6 = (uN v5 + uN v5 / 2 ^ 32) % 18446744073709551616 := by rw [← e6, uN_add, s32]
  have hp := (pcn_pn a 64).trans (pn_64 (uN a))
  have hv := bmp_8 pc8 (uN a)
  have k : ∀ n : Nat, pc8 (n % 256) ≤ 8 := fun n => pop_f _ (Nat.mod_lt _ (by decide))
  have k0 := k (uN a)
  have k1 := k (uN a / 256)
  have k2 := k (uN a / 256 / 256)
  have k3 := k (uN a / 256 / 256 / 256)
  have k4 := k (uN a / 256 / 256 / 256 / 256)
  have k5 := k (uN a / 256 / 256 / 256 / 256 / 256)
  have k6 := k (uN a / 256 / 256 / 256 / 256 / 256 / 256)
  have k7 := k (uN a / 256 / 256 / 256 / 256 / 256 / 256 / 256)
  rw [hv] at h3
  have hz : uN v6 % 128 = pcn a 64 := by rw [hp]; exact pop_sum k0 k1 k2 k3 k4 k5 k6 k7 h3 h4 h5 h6
  rw [show (Int64.toInt32 v6) &&& 127 = nI ((Int64.toInt32 v6).toBitVec.toNat % 2 ^ 7) from pk_and (m := 127) (Int64.toInt32 v6) 7 rfl]
  have e7 : (Int64.toInt32 v6).toBitVec.toNat = uN v6 % 2 ^ 32 := by
    rw [Int64.toBitVec_toInt32, BitVec.signExtend_eq_setWidth_of_le _ (by decide)]
    rw [BitVec.toNat_setWidth]; rfl
  rw [e7, show uN v6 % 2 ^ 32 % 2 ^ 7 = uN v6 % 128 by (clear h1 h2 h3 h4 h5 h6 hp hv; omega), hz]
