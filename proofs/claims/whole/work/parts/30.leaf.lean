/-! SPECS OF THE LEAVES, both sides -/
/-- 1 or 0 -/
def am_b (b : Bool) : Int32 := if b = true then 1 else 0
theorem am_b01 (b : Bool) : am_b b = 0 ∨ am_b b = 1 := by cases b <;> decide
theorem am_b0 (b : Bool) : am_b b = 0 ↔ b = false := by cases b <;> decide
theorem lc_lt (a b : Int64) : lg_cmp a b < 0 ↔ a < b := by
  unfold lg_cmp
  simp only [gt_iff_lt, Int64.lt_iff_toInt_lt, ← Int64.toInt_inj]
  repeat' split
  all_goals (constructor <;> intro hh <;> first | omega | decide | exact absurd hh (by decide))
theorem lc_gt (a b : Int64) : 0 < lg_cmp a b ↔ b < a := by
  unfold lg_cmp
  simp only [gt_iff_lt, Int64.lt_iff_toInt_lt, ← Int64.toInt_inj]
  repeat' split
  all_goals (constructor <;> intro hh <;> first | omega | decide | exact absurd hh (by decide))
theorem lc_ne (a b : Int64) : lg_cmp a b ≠ 0 ↔ a ≠ b := by
  unfold lg_cmp
  simp only [gt_iff_lt, Int64.lt_iff_toInt_lt, ne_eq, ← Int64.toInt_inj]
  repeat' split
  all_goals (constructor <;> intro hh <;> first | omega | decide | exact absurd rfl hh | (intro h; exact absurd h (by decide)))
theorem wd_lt (a b : Int32) : a.toInt64 < b.toInt64 ↔ a < b := by rw [Int64.lt_iff_toInt_lt, Int32.lt_iff_toInt_lt, Int32.toInt_toInt64, Int32.toInt_toInt64]
theorem wd_0 (a : Int32) : a.toInt64 < 0 ↔ a < 0 := wd_lt a 0
/-- m: in -/
theorem sp_in {Ls : Nat} {xs : Nat → Int32} (I : Nat → Nat → Int32) (J : Nat → Nat → Int64) (a b c : Int64) : am_ev (am_tbl Ls xs) 1 (0, [(0, .long a), (2, .long b), (4, .long c)], [], (am_sh, I, J)) = some (some (.int (am_b (decide (¬ a < b ∧ ¬ c < a)))), (am_sh, I, J)) := by
  rw [b_X9_in_0, b_X9_in_17, b_X9_in_18, b_X9_in_18]
  simp only [lc_lt, lc_gt]
  by_cases h1 : a < b
  · simp [h1, am_b]
  · by_cases h2 : c < a <;> simp [h1, h2, am_b]
theorem sp_isPerson {Ls : Nat} {xs : Nat → Int32} (I : Nat → Nat → Int32) (J : Nat → Nat → Int64) (p : Int32) : am_ev (am_tbl Ls xs) 5 (0, [(0, .ref 81), (1, .int p)], [], (am_sh, I, J)) = some (some (.int (am_b (decide (¬ p < 0 ∧ ¬ I 81 8 - 1 < p)))), (am_sh, I, J)) := by
  rw [b_X9_isPerson_0, sp_in, Option.bind_some, am_k_v, b_X9_isPerson_13, if_pos (am_b01 _)]
  simp only [wd_lt, wd_0]
theorem sp_isHour {Ls : Nat} {xs : Nat → Int32} (I : Nat → Nat → Int32) (J : Nat → Nat → Int64) (p : Int32) : am_ev (am_tbl Ls xs) 6 (0, [(0, .ref 81), (1, .int p)], [], (am_sh, I, J)) = some (some (.int (am_b (decide (¬ p < 0 ∧ ¬ I 81 3 - 1 < p)))), (am_sh, I, J)) := by
  rw [b_X9_isHour_0, sp_in, Option.bind_some, am_k_v, b_X9_isHour_13, if_pos (am_b01 _)]
  simp only [wd_lt, wd_0]
theorem sp_isCell {Ls : Nat} {xs : Nat → Int32} (I : Nat → Nat → Int32) (J : Nat → Nat → Int64) (x y : Int32) : am_ev (am_tbl Ls xs) 4 (0, [(0, .ref 81), (1, .int x), (2, .int y)], [], (am_sh, I, J)) = some (some (.int (am_b (decide ((¬ x < 0 ∧ ¬ I 81 0 - 1 < x) ∧ ¬ y < 0 ∧ ¬ I 81 1 - 1 < y)))), (am_sh, I, J)) := by
  rw [b_X9_isCell_0, sp_in, Option.bind_some, am_k_v, b_X9_isCell_13, sp_in, Option.bind_some, am_k_v, b_X9_isCell_29, b_X9_isCell_36, b_X9_isCell_37, b_X9_isCell_37]
  simp only [wd_lt, wd_0, am_b0]
  rw [show decide ((¬ x < 0 ∧ ¬ I 81 0 - 1 < x) ∧ ¬ y < 0 ∧ ¬ I 81 1 - 1 < y) = (decide (¬ x < 0 ∧ ¬ I 81 0 - 1 < x) && decide (¬ y < 0 ∧ ¬ I 81 1 - 1 < y)) from Bool.decide_and _ _]
  generalize decide (¬ x < 0 ∧ ¬ I 81 0 - 1 < x) = b1
  generalize decide (¬ y < 0 ∧ ¬ I 81 1 - 1 < y) = b2
  cases b1 <;> cases b2 <;> simp [am_b]
theorem sp_cells {Ls : Nat} {xs : Nat → Int32} (I : Nat → Nat → Int32) (J : Nat → Nat → Int64) : am_ev (am_tbl Ls xs) 7 (0, [(0, .ref 81)], [], (am_sh, I, J)) = some (some (.int (I 81 0 * I 81 1)), (am_sh, I, J)) := b_X9_cells_0 I J
/-- x: hasCell, hasHour, hasPerson of the plan, cellAt -/
theorem sx_hasHour {Ls : Nat} {xs : Nat → Int32} (I : Nat → Nat → Int32) (J : Nat → Nat → Int64) (h : Int32) : am_ev (am_tbl Ls xs) 134 (0, [(0, .ref 18), (1, .int h)], [], (am_sh, I, J)) = some (some (.int (am_b (decide (¬ h < 0 ∧ ¬ I 18 3 ≤ h)))), (am_sh, I, J)) := by
  rw [b_X2_hasHour_0, b_X2_hasHour_16, b_X2_hasHour_17, b_X2_hasHour_17]
  by_cases h1 : h < 0
  · simp [h1, am_b]
  · by_cases h2 : I 18 3 ≤ h <;> simp [h1, h2, am_b]
theorem sx_hasPerson {Ls : Nat} {xs : Nat → Int32} (I : Nat → Nat → Int32) (J : Nat → Nat → Int64) (h : Int32) : am_ev (am_tbl Ls xs) 135 (0, [(0, .ref 18), (1, .int h)], [], (am_sh, I, J)) = some (some (.int (am_b (decide (¬ h < 0 ∧ ¬ I 18 4 ≤ h)))), (am_sh, I, J)) := by
  rw [b_X2_hasPerson_0, b_X2_hasPerson_16, b_X2_hasPerson_17, b_X2_hasPerson_17]
  by_cases h1 : h < 0
  · simp [h1, am_b]
  · by_cases h2 : I 18 4 ≤ h <;> simp [h1, h2, am_b]
theorem sx_hasCell {Ls : Nat} {xs : Nat → Int32} (I : Nat → Nat → Int32) (J : Nat → Nat → Int64) (h : Int32) : am_ev (am_tbl Ls xs) 133 (0, [(0, .ref 18), (1, .int h)], [], (am_sh, I, J)) = some (some (.int (am_b (decide (¬ h < 0 ∧ ¬ I 18 2 ≤ h)))), (am_sh, I, J)) := by
  rw [b_X2_hasCell_0, b_X2_hasCell_16, b_X2_hasCell_17, b_X2_hasCell_17]
  by_cases h1 : h < 0
  · simp [h1, am_b]
  · by_cases h2 : I 18 2 ≤ h <;> simp [h1, h2, am_b]
theorem sx_cellAt {Ls : Nat} {xs : Nat → Int32} (I : Nat → Nat → Int32) (J : Nat → Nat → Int64) (x y : Int32) : am_ev (am_tbl Ls xs) 137 (0, [(0, .ref 18), (1, .int x), (2, .int y)], [], (am_sh, I, J)) = some (some (.int (if (¬ x < 0 ∧ ¬ y < 0) ∧ ¬ I 18 0 ≤ x ∧ y < I 18 1 then y * I 18 0 + x else -1)), (am_sh, I, J)) := by
  rw [b_X2_cellAt_0, b_X2_cellAt_24]
  by_cases h1 : x < 0
  · simp [h1]
  · by_cases h2 : y < 0
    · simp [h1, h2]
    · by_cases h3 : I 18 0 ≤ x
      · simp [h1, h2, h3]
      · by_cases h4 : y < I 18 1 <;> simp [h1, h2, h3, h4]
