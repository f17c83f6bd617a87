/-! m: paysAhead -/
def mahead (I : Nat → Nat → Int32) (p q : Nat) : Bool := if I 81 15 = 1 ∧ mtall I p ≠ mtall I q then decide (mtall I q < mtall I p) else decide (p < q)
theorem sp_ahead {Ls : Nat} {xs : Nat → Int32} (I : Nat → Nat → Int32) (J : Nat → Nat → Int64) {p q : Nat} (hp : p < 6) (hq : q < 6) : am_ev (am_tbl Ls xs) 31 (0, [(0, .ref 81), (1, .int (nI p)), (2, .int (nI q))], [], (am_sh, I, J)) = some (some (.int (am_b (mahead I p q))), (am_sh, I, J)) := by
  have e40 : am_ev (am_tbl Ls xs) 31 (40, [(1, .int (nI p)), (2, .int (nI q))], [], (am_sh, I, J)) = some (some (.int (am_b (decide (p < q)))), (am_sh, I, J)) := by
    rw [b_X9_paysAhead_40, b_X9_paysAhead_50, b_X9_paysAhead_50, if_pos (Or.inl rfl), if_pos (Or.inr rfl)]
    by_cases h : p < q
    · rw [if_neg (nI_ge h (by omega)), decide_eq_true h]; rfl
    · rw [if_pos (nI_le (by omega) (by omega)), decide_eq_false h]; rfl
  rw [b_X9_paysAhead_0, e40, sp_tall I J hp, Option.bind_some, am_k_v, b_X9_paysAhead_13, sp_tall I J hq, Option.bind_some, am_k_v, b_X9_paysAhead_18, e40, sp_tall I J hp, Option.bind_some, am_k_v, b_X9_paysAhead_26, sp_tall I J hq, Option.bind_some, am_k_v, b_X9_paysAhead_31, b_X9_paysAhead_39, b_X9_paysAhead_39, if_pos (Or.inl rfl), if_pos (Or.inr rfl)]
  unfold mahead
  by_cases h1 : I 81 15 = 1
  · rw [if_neg (fun q => q h1)]
    by_cases h2 : mtall I p = mtall I q
    · rw [if_pos h2, if_neg (fun q => q.2 h2)]
    · rw [if_neg h2, if_pos (show I 81 15 = 1 ∧ mtall I p ≠ mtall I q from ⟨h1, h2⟩)]
      by_cases h3 : mtall I p ≤ mtall I q
      · rw [if_pos h3, decide_eq_false (by rw [i_ltN]; rw [i_leN] at h3; omega)]; rfl
      · rw [if_neg h3, decide_eq_true (by rw [i_ltN]; rw [i_leN] at h3; omega)]; rfl
  · rw [if_pos h1, if_neg (fun q => h1 q.1)]
