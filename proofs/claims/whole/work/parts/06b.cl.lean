/-! THE INSTRUCTIONS THAT READ AND WRITE CELLS -/
set_option maxRecDepth 100000 in
theorem am_clw : (∀ w ∈ wsX00, w ∈ am_tb) ∧ (∀ w ∈ wsX10, w ∈ am_tb) ∧ (∀ w ∈ wsX20, w ∈ am_tb) ∧ (∀ w ∈ wsX30, w ∈ am_tb) ∧ (∀ w ∈ wsX40, w ∈ am_tb) ∧ (∀ w ∈ wsX50, w ∈ am_tb) ∧ (∀ w ∈ wsX60, w ∈ am_tb) ∧ (∀ w ∈ wsX70, w ∈ am_tb) ∧ (∀ w ∈ wsX80, w ∈ am_tb) ∧ (∀ w ∈ wsX90, w ∈ am_tb) := by decide +kernel
theorem am_cl : ∀ (ci : Nat) (q : vw_C), vwCl[ci]? = some q → (∀ w ∈ u_ws q.1 q.2.1 q.2.2, w ∈ am_tb) ∧ (∃ ty0 : Nat → FieldType, ∀ k, k < q.2.2 → parseFieldDescriptor (q.2.1 k).2.2.1 = some (ty0 k)) ∧ (∀ a, a < q.2.2 → ∀ b, b < q.2.2 → a ≠ b → (q.2.1 a).2.1 ≠ (q.2.1 b).2.1) := by
  obtain ⟨h0, h1, h2, h3, h4, h5, h6, h7, h8, h9⟩ := am_clw
  intro ci q h
  match ci, h with
  | 0, h => cases h; exact ⟨h0, ⟨tyX0, tyX0_ok⟩, nmX0⟩
  | 1, h => cases h; exact ⟨h1, ⟨tyX1, tyX1_ok⟩, nmX1⟩
  | 2, h => cases h; exact ⟨h2, ⟨tyX2, tyX2_ok⟩, nmX2⟩
  | 3, h => cases h; exact ⟨h3, ⟨tyX3, tyX3_ok⟩, nmX3⟩
  | 4, h => cases h; exact ⟨h4, ⟨tyX4, tyX4_ok⟩, nmX4⟩
  | 5, h => cases h; exact ⟨h5, ⟨tyX5, tyX5_ok⟩, nmX5⟩
  | 6, h => cases h; exact ⟨h6, ⟨tyX6, tyX6_ok⟩, nmX6⟩
  | 7, h => cases h; exact ⟨h7, ⟨tyX7, tyX7_ok⟩, nmX7⟩
  | 8, h => cases h; exact ⟨h8, ⟨tyX8, tyX8_ok⟩, nmX8⟩
  | 9, h => cases h; exact ⟨h9, ⟨tyX9, tyX9_ok⟩, nmX9⟩
  | n + 10, h => simp [vwCl] at h
