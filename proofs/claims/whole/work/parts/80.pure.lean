/-! THE PURE CLAIM -/
def am_I0 : Nat → Nat → Int32 := am_up2 (am_up2 (am_up2 (am_up2 (am_up2 (fun _ _ => 0) 1 7 (-1)) 81 19 (-1)) 81 39 (-1)) 81 40 (-1)) 81 0 0
/-- on every script the loop comes to its end with 1 -/
theorem am_pure (L : Nat) (hL : L ≤ 2560) (xs : Nat → Int32) : ∃ (I : Nat → Nat → Int32) (J : Nat → Nat → Int64), am_ev (am_tbl L xs) 109 (18, [(0, .ref 1000100), (1, .ref 0), (2, .ref 81), (3, .int 0)], [], (am_sh, am_I0, fun _ _ => 0)) = some (some (.int 1), (am_sh, I, J)) := by
  sorry
