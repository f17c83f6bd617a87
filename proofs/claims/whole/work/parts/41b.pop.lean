/-! Long.bitCount: how many bits (uN: of the kit's rows to paste) -/
def uN (x : Int64) : Nat := x.toUInt64.toNat
theorem uN_lt (x : Int64) : uN x < 18446744073709551616 := x.toUInt64.toNat_lt
theorem uN_inj {x y : Int64} (h : uN x = uN y) : x = y := congrArg UInt64.toInt64 (UInt64.toNat_inj.mp h)
theorem uN_add (x y : Int64) : uN (x + y) = (uN x + uN y) % 18446744073709551616 := by
  show (x.toUInt64 + y.toUInt64).toNat = _
  exact UInt64.toNat_add _ _
theorem uN_shr (x : Int64) (s : UInt64) : uN (x.toUInt64 >>> s).toInt64 = uN x / 2 ^ (s.toNat % 64) := by
  show (x.toUInt64 >>> s).toNat = _
  rw [UInt64.toNat_shiftRight, Nat.shiftRight_eq_div_pow]
  rfl
def bmp (f : Nat → Nat) : Nat → Nat → Nat
  | 0, _ => 0
  | k + 1, n => bmp f k (n / 256) * 256 + f (n % 256)
theorem bmp_lt {f : Nat → Nat} (hf : ∀ b, b < 256 → f b < 256) : ∀ k n, bmp f k n < 256 ^ k := by
  intro k
  induction k with
  | zero => intro n; exact Nat.one_pos
  | succ k ih =>
    intro n
    have h1 := ih (n / 256)
    have h2 := hf (n % 256) (Nat.mod_lt _ (by decide))
    show bmp f k (n / 256) * 256 + f (n % 256) < 256 ^ (k + 1)
    rw [Nat.pow_succ]
    omega
theorem bmp_id : ∀ k n, n < 256 ^ k → bmp (fun b => b) k n = n := by
  intro k
  induction k with
  | zero => intro n h; rw [Nat.pow_zero] at h; show 0 = n; omega
  | succ k ih =>
    intro n h
    rw [Nat.pow_succ] at h
    show bmp (fun b => b) k (n / 256) * 256 + n % 256 = n
    rw [ih (n / 256) (by omega)]
    omega
theorem bmp_add (f g : Nat → Nat) : ∀ k n, bmp f k n + bmp g k n = bmp (fun b => f b + g b) k n := by
  intro k
  induction k with
  | zero => intro n; rfl
  | succ k ih =>
    intro n
    have := ih (n / 256)
    show bmp f k (n / 256) * 256 + f (n % 256) + (bmp g k (n / 256) * 256 + g (n % 256)) = bmp (fun b => f b + g b) k (n / 256) * 256 + (f (n % 256) + g (n % 256))
    rw [← this]
    omega
theorem bmp_cong {f g : Nat → Nat} (h : ∀ b, b < 256 → f b = g b) : ∀ k n, bmp f k n = bmp g k n := by
  intro k
  induction k with
  | zero => intro n; rfl
  | succ k ih =>
    intro n
    show bmp f k (n / 256) * 256 + f (n % 256) = bmp g k (n / 256) * 256 + g (n % 256)
    rw [ih, h _ (Nat.mod_lt _ (by decide))]
theorem bmp_sub {f g : Nat → Nat} (h : ∀ b, b < 256 → g b ≤ f b) : ∀ k n, bmp f k n - bmp g k n = bmp (fun b => f b - g b) k n := by
  intro k n
  have h1 := bmp_add (fun b => f b - g b) g k n
  have h2 := bmp_cong (f := fun b => f b - g b + g b) (g := f) (fun b hb => by have := h b hb; show f b - g b + g b = f b; omega) k n
  omega
theorem bmp_comp {f g : Nat → Nat} (hf : ∀ b, b < 256 → f b < 256) : ∀ k n, bmp g k (bmp f k n) = bmp (fun b => g (f b)) k n := by
  intro k
  induction k with
  | zero => intro n; rfl
  | succ k ih =>
    intro n
    have h2 := hf (n % 256) (Nat.mod_lt _ (by decide))
    show bmp g k ((bmp f k (n / 256) * 256 + f (n % 256)) / 256) * 256 + g ((bmp f k (n / 256) * 256 + f (n % 256)) % 256) = bmp (fun b => g (f b)) k (n / 256) * 256 + g (f (n % 256))
    rw [show (bmp f k (n / 256) * 256 + f (n % 256)) / 256 = bmp f k (n / 256) by omega, show (bmp f k (n / 256) * 256 + f (n % 256)) % 256 = f (n % 256) by omega, ih]
theorem nat_and_cat {a b c d : Nat} (hb : b < 256) (hd : d < 256) : (a * 256 + b) &&& (c * 256 + d) = (a &&& c) * 256 + (b &&& d) := by
  have e : ∀ x y : Nat, y < 256 → ∀ i, (x * 256 + y).testBit i = if i < 8 then y.testBit i else x.testBit (i - 8) := by
    intro x y hy i
    rw [show x * 256 = 2 ^ 8 * x by rw [Nat.mul_comm], Nat.testBit_two_pow_mul_add _ (by simpa using hy)]
  apply Nat.eq_of_testBit_eq
  intro i
  rw [Nat.testBit_and, e a b hb, e c d hd, e _ _ (Nat.lt_of_le_of_lt Nat.and_le_left hb)]
  split
  · rw [Nat.testBit_and]
  · rw [Nat.testBit_and]
theorem bmp_and (m : Nat) (hm : m < 256) : ∀ k n, n &&& bmp (fun _ => m) k 0 = bmp (fun b => b &&& m) k n := by
  intro k
  induction k with
  | zero => intro n; exact Nat.and_zero n
  | succ k ih =>
    intro n
    show n &&& (bmp (fun _ => m) k (0 / 256) * 256 + m) = bmp (fun b => b &&& m) k (n / 256) * 256 + (n % 256 &&& m)
    rw [Nat.zero_div, ← ih (n / 256), ← nat_and_cat (Nat.mod_lt _ (by decide)) hm, show n / 256 * 256 + n % 256 = n by omega]
set_option maxRecDepth 20000 in
theorem bmp_le {f : Nat → Nat} {m : Nat} (hf : ∀ b, b < 256 → f b ≤ m) : ∀ k n, bmp f k n * 255 + m ≤ m * 256 ^ k := by
  intro k
  induction k with
  | zero => intro n; show 0 * 255 + m ≤ m * 1; omega
  | succ k ih =>
    intro n
    have h1 := ih (n / 256)
    have h2 := hf (n % 256) (Nat.mod_lt _ (by decide))
    show (bmp f k (n / 256) * 256 + f (n % 256)) * 255 + m ≤ m * 256 ^ (k + 1)
    rw [Nat.pow_succ, ← Nat.mul_assoc]
    generalize m * 256 ^ k = X at h1 ⊢
    generalize bmp f k (n / 256) = Y at h1 ⊢
    generalize f (n % 256) = c at h2 ⊢
    clear ih hf
    omega
/-- shifted by s and masked, where the mask has no bit above 8 - s -/
theorem bmp_shr (m s : Nat) (hm : ∀ b, b < 256 → ∀ a, a < 2 ^ s → (b / 2 ^ s + a % 2 ^ s * 2 ^ (8 - s)) &&& m = b / 2 ^ s &&& m) (hs : s ≤ 8) (hm2 : m < 256) : ∀ k n, n / 2 ^ s &&& bmp (fun _ => m) k 0 = bmp (fun b => b / 2 ^ s &&& m) k n := by
  intro k
  induction k with
  | zero => intro n; exact Nat.and_zero _
  | succ k ih =>
    intro n
    have hp : 2 ^ s * 2 ^ (8 - s) = 256 := by rw [← Nat.pow_add, show s + (8 - s) = 8 by omega]
    have hpos : 0 < 2 ^ s := Nat.two_pow_pos s
    show n / 2 ^ s &&& (bmp (fun _ => m) k (0 / 256) * 256 + m) = bmp (fun b => b / 2 ^ s &&& m) k (n / 256) * 256 + (n % 256 / 2 ^ s &&& m)
    have hn : n = 256 * (n / 256) + n % 256 := (Nat.div_add_mod n 256).symm
    have hlt : n % 256 < 256 := Nat.mod_lt _ (by decide)
    generalize n / 256 = q at hn ⊢
    generalize n % 256 = b at hn hlt ⊢
    have hq : q = 2 ^ s * (q / 2 ^ s) + q % 2 ^ s := (Nat.div_add_mod q (2 ^ s)).symm
    have e1 : n / 2 ^ s = q / 2 ^ s * 256 + (b / 2 ^ s + q % 2 ^ s * 2 ^ (8 - s)) := by
      have e2 : n = 2 ^ s * (q * 2 ^ (8 - s)) + b := by rw [← Nat.mul_assoc, Nat.mul_right_comm, hp]; exact hn
      rw [e2, Nat.mul_add_div hpos]
      have e3 : q * 2 ^ (8 - s) = q / 2 ^ s * 256 + q % 2 ^ s * 2 ^ (8 - s) := by
        rw [← hp, show q / 2 ^ s * (2 ^ s * 2 ^ (8 - s)) = (2 ^ s * (q / 2 ^ s)) * 2 ^ (8 - s) by rw [← Nat.mul_assoc, Nat.mul_comm (q / 2 ^ s)], ← Nat.add_mul, Nat.div_add_mod]
      omega
    have h4 : b / 2 ^ s + q % 2 ^ s * 2 ^ (8 - s) < 256 := by
      have h5 : b / 2 ^ s < 2 ^ (8 - s) := Nat.div_lt_of_lt_mul (by rw [hp]; exact hlt)
      have h6 : q % 2 ^ s + 1 ≤ 2 ^ s := Nat.mod_lt q hpos
      have h7 := Nat.mul_le_mul_right (2 ^ (8 - s)) h6
      rw [hp, Nat.add_mul, Nat.one_mul] at h7
      omega
    rw [e1, Nat.zero_div, nat_and_cat h4 hm2, ih q]
    have h8 := hm b hlt (q % 2 ^ s) (Nat.mod_lt q hpos)
    rw [Nat.mod_mod] at h8
    rw [h8]
def pc8 (b : Nat) : Nat := (b % 2 + b / 2 % 2 + b / 4 % 2 + b / 8 % 2) + (b / 16 % 2 + b / 32 % 2 + b / 64 % 2 + b / 128 % 2)
theorem uN_sub {x y : Int64} (h : uN y ≤ uN x) : uN (x - y) = uN x - uN y := by
  show (x.toUInt64 - y.toUInt64).toNat = _
  exact UInt64.toNat_sub_of_le _ _ h
theorem uN_and (x y : Int64) : uN (x &&& y) = uN x &&& uN y := by
  show (x.toUInt64 &&& y.toUInt64).toNat = _
  rw [UInt64.toNat_and]; rfl
/-- as the code has it, over whole numbers -/
theorem pop_1 (n : Nat) (h : n < 256 ^ 8) : n - (n / 2 ^ 1 &&& 6148914691236517205) = bmp (fun b => b - (b / 2 ^ 1 &&& 85)) 8 n := by
  have e : (6148914691236517205 : Nat) = bmp (fun _ => 85) 8 0 := by decide +kernel
  rw [e, bmp_shr 85 1 (by decide +kernel) (by decide) (by decide)]
  have h1 := bmp_id 8 n h
  have h2 := bmp_sub (f := fun b => b) (g := fun b => b / 2 ^ 1 &&& 85) (fun b _ => Nat.le_trans Nat.and_le_left (Nat.div_le_self _ _)) 8 n
  rw [h1] at h2
  exact h2
theorem pop_2 (n : Nat) : (n &&& 3689348814741910323) + (n / 2 ^ 2 &&& 3689348814741910323) = bmp (fun b => (b &&& 51) + (b / 2 ^ 2 &&& 51)) 8 n := by
  have e : (3689348814741910323 : Nat) = bmp (fun _ => 51) 8 0 := by decide +kernel
  rw [e, bmp_shr 51 2 (by decide +kernel) (by decide) (by decide), bmp_and 51 (by decide), bmp_add]
theorem pop_3 {f : Nat → Nat} (hf : ∀ b, b < 256 → f b % 16 ≤ 4 ∧ f b / 16 ≤ 4) : ∀ k x, (bmp f k x + bmp f k x / 2 ^ 4) &&& bmp (fun _ => 15) k 0 = bmp (fun b => (f b + f b / 2 ^ 4) % 16) k x := by
  have h0 : ∀ k x, bmp f k x % 16 ≤ 4 := by
    intro k x
    cases k with
    | zero => exact Nat.zero_le _
    | succ k =>
      have := (hf (x % 256) (Nat.mod_lt _ (by decide))).1
      show (bmp f k (x / 256) * 256 + f (x % 256)) % 16 ≤ 4
      omega
  intro k
  induction k with
  | zero => intro x; exact Nat.and_zero _
  | succ k ih =>
    intro x
    have h1 := hf (x % 256) (Nat.mod_lt _ (by decide))
    have h2 := h0 k (x / 256)
    show (bmp f k (x / 256) * 256 + f (x % 256) + (bmp f k (x / 256) * 256 + f (x % 256)) / 2 ^ 4) &&& (bmp (fun _ => 15) k (0 / 256) * 256 + 15) = bmp (fun b => (f b + f b / 2 ^ 4) % 16) k (x / 256) * 256 + (f (x % 256) + f (x % 256) / 2 ^ 4) % 16
    rw [Nat.zero_div, ← ih (x / 256)]
    generalize bmp f k (x / 256) = N at h2 ⊢
    generalize f (x % 256) = c at h1 ⊢
    have e : N * 256 + c + (N * 256 + c) / 2 ^ 4 = (N + N / 2 ^ 4) * 256 + (N % 16 * 16 + (c + c / 2 ^ 4)) := by omega
    rw [e, nat_and_cat (by omega) (by decide)]
    have e2 : (N % 16 * 16 + (c + c / 2 ^ 4)) &&& 15 = (N % 16 * 16 + (c + c / 2 ^ 4)) % 16 := Nat.and_two_pow_sub_one_eq_mod _ 4
    rw [e2]
    generalize (N + N / 2 ^ 4) &&& bmp (fun _ => 15) k 0 = Z
    clear ih h0 e e2
    omega
theorem pop_b : ∀ b, b < 256 → (fun b => (b &&& 51) + (b / 2 ^ 2 &&& 51)) ((fun b => b - (b / 2 ^ 1 &&& 85)) b) % 16 ≤ 4 ∧ (fun b => (b &&& 51) + (b / 2 ^ 2 &&& 51)) ((fun b => b - (b / 2 ^ 1 &&& 85)) b) / 16 ≤ 4 := by decide +kernel
theorem pop_c : ∀ b, b < 256 → (fun b => ((fun b => (b &&& 51) + (b / 2 ^ 2 &&& 51)) ((fun b => b - (b / 2 ^ 1 &&& 85)) b) + (fun b => (b &&& 51) + (b / 2 ^ 2 &&& 51)) ((fun b => b - (b / 2 ^ 1 &&& 85)) b) / 2 ^ 4) % 16) b = pc8 b := by decide +kernel
theorem pop_d : ∀ b, b < 256 → (fun b => b - (b / 2 ^ 1 &&& 85)) b < 256 := by decide +kernel
theorem pop_e : ∀ b, b < 256 → (fun b => (b &&& 51) + (b / 2 ^ 2 &&& 51)) ((fun b => b - (b / 2 ^ 1 &&& 85)) b) < 256 := by decide +kernel
theorem pop_g : ∀ b, b < 256 → (fun b => (b &&& 51) + (b / 2 ^ 2 &&& 51)) ((fun b => b - (b / 2 ^ 1 &&& 85)) b) ≤ 68 := by decide +kernel
theorem pop_f : ∀ b, b < 256 → pc8 b ≤ 8 := by decide +kernel
def pn (n : Nat) : Nat → Nat
  | 0 => 0
  | k + 1 => pn n k + n / 2 ^ k % 2
set_option maxRecDepth 20000 in
theorem pn_8 (n : Nat) : ∀ k, pn n (8 + k) = pc8 (n % 256) + pn (n / 256) k := by
  intro k
  induction k with
  | zero =>
    show pn n 8 = pc8 (n % 256) + 0
    simp only [pn, pc8]
    omega
  | succ k ih =>
    show pn n (8 + k) + n / 2 ^ (8 + k) % 2 = pc8 (n % 256) + (pn (n / 256) k + n / 256 / 2 ^ k % 2)
    rw [ih, Nat.pow_add, ← Nat.div_div_eq_div_mul, show (2 : Nat) ^ 8 = 256 from rfl]
    omega
theorem pcn_pn (a : Int64) : ∀ n, pcn a n = pn (uN a) n := by
  intro n
  induction n with
  | zero => rfl
  | succ n ih =>
    show pcn a n + _ = pn (uN a) n + _
    rw [ih]
    have e : hbt a n = (uN a).testBit n := rfl
    rw [e, Nat.testBit_eq_decide_div_mod_eq]
    by_cases h : uN a / 2 ^ n % 2 = 1
    · rw [if_pos (decide_eq_true h), h]
    · rw [if_neg (by rw [decide_eq_false h]; decide)]
      omega
theorem uN_k (x : Int64) (k : Nat) (hk : k < 64) (h : (Int64.toUInt64 (Int32.toInt64 (nI k)) &&& Int64.toUInt64 63).toNat % 64 = k) : uN (UInt64.toInt64 (Int64.toUInt64 x >>> (Int64.toUInt64 (Int32.toInt64 (nI k)) &&& Int64.toUInt64 63))) = uN x / 2 ^ k := by
  rw [uN_shr, h]
theorem pop_sum {c0 c1 c2 c3 c4 c5 c6 c7 v3 v4 v5 v6 : Nat} (k0 : c0 ≤ 8) (k1 : c1 ≤ 8) (k2 : c2 ≤ 8) (k3 : c3 ≤ 8) (k4 : c4 ≤ 8) (k5 : c5 ≤ 8) (k6 : c6 ≤ 8) (k7 : c7 ≤ 8) (h3 : v3 = (((((((0 * 256 + c7) * 256 + c6) * 256 + c5) * 256 + c4) * 256 + c3) * 256 + c2) * 256 + c1) * 256 + c0)
    (h4 : v4 = (v3 + v3 / 2 ^ 8) % 18446744073709551616) (h5 : v5 = (v4 + v4 / 2 ^ 16) % 18446744073709551616) (h6 : v6 = (v5 + v5 / 2 ^ 32) % 18446744073709551616) : v6 % 128 = c0 + (c1 + (c2 + (c3 + (c4 + (c5 + (c6 + (c7 + 0))))))) := by
  have q3 : v3 / 2 ^ 8 = c7 * 281474976710656 + c6 * 1099511627776 + c5 * 4294967296 + c4 * 16777216 + c3 * 65536 + c2 * 256 + c1 := by omega
  rw [q3, Nat.mod_eq_of_lt (by omega)] at h4
  have q4 : v4 / 2 ^ 16 = c7 * 1099511627776 + (c6 + c7) * 4294967296 + (c5 + c6) * 16777216 + (c4 + c5) * 65536 + (c3 + c4) * 256 + (c2 + c3) := by
    clear h5 h6 q3
    omega
  rw [q4, Nat.mod_eq_of_lt (by clear h5 h6 q3; omega)] at h5
  have q5 : v5 / 2 ^ 32 = c7 * 16777216 + (c6 + c7) * 65536 + (c5 + c6 + c7) * 256 + (c4 + c5 + (c6 + c7)) := by
    clear h6 q3 q4
    omega
  rw [q5, Nat.mod_eq_of_lt (by clear h6 q3 q4; omega)] at h6
  clear q3 q4 q5
  omega
