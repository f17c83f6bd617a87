/-! SETS AS LONGS: bits -/
def hbt (a : Int64) (j : Nat) : Bool := a.toBitVec.getLsbD j
theorem hb_sh : ∀ k, k < 64 → ((Int32.toInt64 (nI k) &&& 63).toBitVec.smod 64).toNat = k := by decide +kernel
theorem hb_and1 (y : Int64) : (y &&& 1) = 1 ↔ hbt y 0 = true := by
  rw [← Int64.toBitVec_inj, Int64.toBitVec_and]
  show y.toBitVec &&& 1#64 = 1#64 ↔ _
  unfold hbt
  constructor
  · intro h
    have t := congrArg (fun x => x.getLsbD 0) h
    simpa using t
  · intro h
    apply BitVec.eq_of_getLsbD_eq
    intro i hi
    cases i with
    | zero => simp [h]
    | succ i => simp
theorem hb_and0 (y : Int64) : (y &&& 1) = 0 ↔ hbt y 0 = false := by
  rw [← Int64.toBitVec_inj, Int64.toBitVec_and]
  show y.toBitVec &&& 1#64 = 0#64 ↔ _
  unfold hbt
  constructor
  · intro h
    have t := congrArg (fun x => x.getLsbD 0) h
    simpa using t
  · intro h
    apply BitVec.eq_of_getLsbD_eq
    intro i hi
    cases i with
    | zero =>
      rw [BitVec.getLsbD_and, h]; simp
    | succ i => simp
theorem hb_shr (a : Int64) {k : Nat} (hk : k < 64) : hbt (a >>> (Int32.toInt64 (nI k) &&& 63)) 0 = hbt a k := by
  unfold hbt
  rw [Int64.toBitVec_shiftRight]
  show (a.toBitVec.sshiftRight ((Int32.toInt64 (nI k) &&& 63).toBitVec.smod 64).toNat).getLsbD 0 = _
  rw [hb_sh k hk, BitVec.getLsbD_sshiftRight]
  simp [hk]
theorem hb_has (a : Int64) {k : Nat} (hk : k < 64) : hasb a (nI k) = hbt a k := by
  unfold hasb
  have h := hb_and1 (a >>> (Int32.toInt64 (nI k) &&& 63))
  rw [hb_shr a hk] at h
  cases hx : hbt a k
  · exact decide_eq_false (fun q => by rw [h.mp q] at hx; cases hx)
  · exact decide_eq_true (h.mpr hx)
theorem hb_z (a : Int64) {k : Nat} (hk : k < 64) : ((a >>> (Int32.toInt64 (nI k) &&& 63)) &&& 1) = 0 ↔ hbt a k = false := by rw [hb_and0, hb_shr a hk]
theorem hb_or (a b : Int64) (j : Nat) : hbt (a ||| b) j = (hbt a j || hbt b j) := by unfold hbt; rw [Int64.toBitVec_or, BitVec.getLsbD_or]
theorem hb_an (a b : Int64) (j : Nat) : hbt (a &&& b) j = (hbt a j && hbt b j) := by unfold hbt; rw [Int64.toBitVec_and, BitVec.getLsbD_and]
theorem hb_not (a : Int64) {j : Nat} (hj : j < 64) : hbt (a ^^^ (-1)) j = !hbt a j := by
  unfold hbt
  rw [Int64.toBitVec_xor, BitVec.getLsbD_xor, show (-1 : Int64).toBitVec = BitVec.allOnes 64 by decide, BitVec.getLsbD_allOnes]
  simp [hj]
theorem hb_0 (j : Nat) : hbt 0 j = false := BitVec.getLsbD_zero
theorem hb_c : ∀ k, k < 64 → (cbit k).toBitVec = BitVec.twoPow 64 k := by decide +kernel
theorem hb_bit {k : Nat} (hk : k < 64) (j : Nat) : hbt (cbit k) j = decide (j = k) := by
  unfold hbt
  rw [hb_c k hk, BitVec.getLsbD_twoPow]
  by_cases h : k = j
  · subst h; simp [hk]
  · simp [h, show ¬ j = k by omega]
theorem hb_ext {a b : Int64} (h : ∀ j, j < 64 → hbt a j = hbt b j) : a = b := Int64.toBitVec_inj.mp (BitVec.eq_of_getLsbD_eq (fun i hi => h i hi))
theorem l_zan (a : Int64) : 0 &&& a = 0 := hb_ext (fun j _ => by rw [hb_an, hb_0, Bool.false_and])
theorem l_anm (a : Int64) : a &&& (-1) = a := hb_ext (fun j hj => by
  rw [hb_an, show hbt (-1) j = true from ?_, Bool.and_true]
  unfold hbt
  rw [show (-1 : Int64).toBitVec = BitVec.allOnes 64 by decide, BitVec.getLsbD_allOnes]
  simp [hj])
theorem l_xz : (0 : Int64) ^^^ (-1) = -1 := by decide
theorem l_oz (a : Int64) : a ||| 0 = a := hb_ext (fun j _ => by rw [hb_or, hb_0, Bool.or_false])
theorem l_zo (a : Int64) : 0 ||| a = a := hb_ext (fun j _ => by rw [hb_or, hb_0, Bool.false_or])
theorem lc_eq (a b : Int64) : lg_cmp a b = 0 ↔ a = b := by
  have := lc_ne a b
  constructor
  · intro h; exact Classical.byContradiction fun q => this.mpr q h
  · intro h; exact Classical.byContradiction fun q => this.mp q h
/-- how many of the bits below n -/
def pcn (a : Int64) : Nat → Nat
  | 0 => 0
  | n + 1 => pcn a n + (if hbt a n = true then 1 else 0)
theorem pcn_le (a : Int64) : ∀ n, pcn a n ≤ n
  | 0 => Nat.le_refl _
  | n + 1 => by have := pcn_le a n; unfold pcn; split <;> omega
theorem l_one (y : Int64) : Int64.toInt32 (y &&& 1) = nI (if hbt y 0 = true then 1 else 0) := by
  cases h : hbt y 0
  · rw [(hb_and0 y).mpr h, if_neg (by decide)]; rfl
  · rw [(hb_and1 y).mpr h, if_pos rfl]; rfl
theorem cnt_pcn (a : Int64) : ∀ n k, k + n ≤ 64 → cnt a n k (nI (pcn a k)) = nI (pcn a (k + n)) := by
  intro n
  induction n with
  | zero => intro k _; rfl
  | succ n ih =>
    intro k hk
    unfold cnt
    rw [l_one, hb_shr a (show k < 64 by omega), nI_add, show pcn a k + (if hbt a k = true then 1 else 0) = pcn a (k + 1) from rfl, ih (k + 1) (by omega)]
    rw [show k + 1 + n = k + (n + 1) by omega]
theorem cnt_48 (a : Int64) : cnt a 48 0 0 = nI (pcn a 48) := by
  have := cnt_pcn a 48 0 (by omega)
  rw [Nat.zero_add] at this
  exact this
/-! rays and darkness over whole numbers -/
def rayN (W D : Nat) (H : Nat → Nat) (gx gy : Int) : Nat → Nat → Int64 → Int64
  | 0, _, s => s
  | n + 1, c, s => match nb W D gx gy c with
    | some c' => if H c' = 0 then rayN W D H gx gy n c' (s ||| cbit c') else s
    | none => s
theorem ray_N {W D : Nat} {Hi : Nat → Int32} {H : Nat → Nat} {gx gy : Int} (hWD : W * D ≤ 48) (hH : ∀ c, c < 48 → Hi c = nI (H c)) (hB : ∀ c, c < 48 → H c ≤ 9) : ∀ n c s, ray W D Hi gx gy n c s = rayN W D H gx gy n c s := by
  intro n
  induction n with
  | zero => intro c s; rfl
  | succ n ih =>
    intro c s
    unfold ray rayN
    cases hb : nb W D gx gy c with
    | none => rfl
    | some c' =>
      have h1 := (nb_lt hb).1
      have h2 := hB c' (by omega)
      dsimp only
      rw [hH c' (by omega)]
      by_cases h : H c' = 0
      · rw [if_pos h, if_pos ((n_le0 (by omega)).mpr h), ih]
      · rw [if_neg h, if_neg (fun q => h ((n_le0 (by omega)).mp q))]
theorem rayN_acc {W D : Nat} {H : Nat → Nat} {gx gy : Int} {j : Nat} (hj : j < 64) (hWD : W * D ≤ 48) : ∀ n c s, hbt (rayN W D H gx gy n c s) j = true → hbt s j = true ∨ (j < W * D ∧ H j = 0) := by
  intro n
  induction n with
  | zero => intro c s h; exact Or.inl h
  | succ n ih =>
    intro c s h
    unfold rayN at h
    cases hb : nb W D gx gy c with
    | none => rw [hb] at h; exact Or.inl h
    | some c' =>
      rw [hb] at h
      dsimp only at h
      have h1 := (nb_lt hb).1
      by_cases h0 : H c' = 0
      · rw [if_pos h0] at h
        rcases ih _ _ h with q | q
        · rw [hb_or, hb_bit (by omega)] at q
          rcases Bool.or_eq_true_iff.mp q with r | r
          · exact Or.inl r
          · have e := of_decide_eq_true r
            subst e
            exact Or.inr ⟨h1, h0⟩
        · exact Or.inr q
      · rw [if_neg h0] at h; exact Or.inl h
def dkl (g : Vg) (h : Nat) : Nat → Int64
  | 0 => 0
  | n + 1 => dkl g h n ||| (if gH g n = 0 then 0 else rayN (gW g) (gD g) (gH g) (gX g h) (gY g h) (gH g n * gL g h) n 0)
def dk (g : Vg) (h : Nat) : Int64 := dkl g h (gW g * gD g)
theorem dark_N {g : Vg} {Hi : Nat → Int32} {h : Nat} (hWD : gW g * gD g ≤ 48) (hH : ∀ c, c < 48 → Hi c = nI (gH g c)) (hB : ∀ c, c < 48 → gH g c ≤ 9) : ∀ n c, c + n = gW g * gD g → dark (gW g) (gD g) Hi (gX g h) (gY g h) (gL g h) n c (dkl g h c) = dk g h := by
  intro n
  induction n with
  | zero => intro c hc; unfold dark dk; rw [← hc]; rfl
  | succ n ih =>
    intro c hc
    unfold dark
    have h2 := hB c (by omega)
    rw [hH c (by omega), ray_N hWD hH hB, nI_clamp (show gH g c < 2 ^ 31 by omega)]
    have e : (dkl g h c ||| if nI (gH g c) ≤ 0 then 0 else rayN (gW g) (gD g) (gH g) (gX g h) (gY g h) (gH g c * gL g h) c 0) = dkl g h (c + 1) := by
      show _ = dkl g h c ||| _
      by_cases h0 : gH g c = 0
      · rw [if_pos h0, if_pos ((n_le0 (by omega)).mpr h0)]
      · rw [if_neg h0, if_neg (fun q => h0 ((n_le0 (by omega)).mp q))]
    rw [e, ih (c + 1) (by omega)]
/-- dark cells have no house -/
theorem dkl_free {g : Vg} {h j : Nat} (hj : j < 64) (hWD : gW g * gD g ≤ 48) : ∀ n, hbt (dkl g h n) j = true → j < gW g * gD g ∧ gH g j = 0 := by
  intro n
  induction n with
  | zero => intro q; unfold dkl at q; rw [hb_0] at q; cases q
  | succ n ih =>
    intro q
    unfold dkl at q
    rw [hb_or] at q
    rcases Bool.or_eq_true_iff.mp q with r | r
    · exact ih r
    · by_cases h0 : gH g n = 0
      · rw [if_pos h0, hb_0] at r; cases r
      · rw [if_neg h0] at r
        rcases rayN_acc hj hWD _ _ _ r with w | w
        · rw [hb_0] at w; cases w
        · exact w
