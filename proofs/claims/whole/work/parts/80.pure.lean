/-! THE PURE CLAIM: the loop over the script -/
def am_I0 : Nat → Nat → Int32 := am_up2 (am_up2 (am_up2 (am_up2 (am_up2 (fun _ _ => 0) 1 7 (-1)) 81 19 (-1)) 81 39 (-1)) 81 40 (-1)) 81 0 0
def r00 : Vr := ((0, -1, 0, fun _ => 0), (0, fun _ => 0, fun _ => 0, fun _ => 0), (0, fun _ => 0, fun _ => 0), (0, fun _ => 0, fun _ => 0, fun _ => 0), (0, g00.2), (0, g00.2))
theorem i0_z {q j : Nat} (h : (q ≠ 1 ∨ j ≠ 7) ∧ (q ≠ 81 ∨ (j ≠ 19 ∧ j ≠ 39 ∧ j ≠ 40))) : am_I0 q j = 0 := by
  unfold am_I0
  by_cases e : q = 81 ∧ j = 0
  · obtain ⟨rfl, rfl⟩ := e
    exact up_eq
  · rw [up_ne (by omega), up_ne (by omega), up_ne (by omega), up_ne (by omega), up_ne (by omega)]
theorem inv_0 : Inv am_I0 (fun _ _ => 0) := by
  refine ⟨g00, r00, bd_00.1, ⟨⟨Nat.zero_le _, Nat.zero_le _, Nat.zero_le _, Nat.zero_le _, Nat.zero_le _, Nat.zero_le _, Nat.zero_le _⟩, fun k hk => absurd hk (Nat.not_lt_zero k), fun k hk => absurd hk (Nat.not_lt_zero k), fun k hk => absurd hk (Nat.not_lt_zero k), fun k hk => absurd hk (Nat.not_lt_zero k), fun h => absurd h (by show (0 : Nat) ≠ 1; omega), fun h => absurd h (by show (0 : Nat) ≠ 1; omega)⟩, ⟨⟨⟨i0_z (by omega), i0_z (by omega), i0_z (by omega), i0_z (by omega), i0_z (by omega)⟩, fun h c hh _ => absurd hh (Nat.not_lt_zero h), fun h hh => absurd hh (Nat.not_lt_zero h), fun p hp => absurd hp (Nat.not_lt_zero p), fun c hc => absurd hc (Nat.not_lt_zero c), fun c _ => i0_z (by omega), fun p hp => absurd hp (Nat.not_lt_zero p), i0_z (by omega), i0_z (by omega), i0_z (by omega)⟩, ⟨⟨i0_z (by omega), ?_, i0_z (by omega), i0_z (by omega), i0_z (by omega), i0_z (by omega), i0_z (by omega)⟩, fun k hk => absurd hk (Nat.not_lt_zero k), fun k hk => absurd hk (Nat.not_lt_zero k), fun k hk => absurd hk (Nat.not_lt_zero k), fun k hk => absurd hk (Nat.not_lt_zero k), ⟨i0_z (by omega), i0_z (by omega)⟩, fun h => absurd h (by show (0 : Nat) ≠ 1; omega), fun h => absurd h (by show (0 : Nat) ≠ 1; omega)⟩, fun h hh => absurd hh (Nat.not_lt_zero h)⟩, ⟨⟨⟨i0_z (by omega), i0_z (by omega), i0_z (by omega), i0_z (by omega)⟩, fun h hh => absurd hh (Nat.not_lt_zero h), fun p hp => absurd hp (Nat.not_lt_zero p), fun c _ => i0_z (by omega), fun p hp => absurd hp (Nat.not_lt_zero p), i0_z (by omega), i0_z (by omega), i0_z (by omega)⟩, ⟨⟨i0_z (by omega), ?_, i0_z (by omega), i0_z (by omega), i0_z (by omega), i0_z (by omega)⟩, fun k hk => absurd hk (Nat.not_lt_zero k), fun k hk => absurd hk (Nat.not_lt_zero k), fun k hk => absurd hk (Nat.not_lt_zero k), fun k hk => absurd hk (Nat.not_lt_zero k), ⟨i0_z (by omega), i0_z (by omega)⟩, fun h => absurd h (by show (0 : Nat) ≠ 1; omega), fun h => absurd h (by show (0 : Nat) ≠ 1; omega)⟩, ?_, ?_⟩⟩
  · unfold am_I0
    rw [up_ne (by omega), up_ne (by omega), up_ne (by omega), up_ne (by omega), up_eq]; rfl
  · unfold am_I0
    rw [up_ne (by omega), up_ne (by omega), up_ne (by omega), up_eq]; rfl
  · unfold am_I0
    rw [up_ne (by omega), up_ne (by omega), up_eq]
  · unfold am_I0
    rw [up_ne (by omega), up_eq]
section
variable {Ls : Nat} {xs : Nat → Int32} {I I' : Nat → Nat → Int32} {J J' : Nat → Nat → Int64} {k : Nat}
abbrev lL (k : Nat) : AmLs := [(0, .ref 1000100), (1, .ref 0), (2, .ref 81), (3, .int (nI k))]
theorem lw_of {kx km p1 p2 : Nat} {ax am : AmLs} (S : StpC Ls xs kx km ax am I J)
    (h1 : ∀ v I J, am_ev (am_tbl Ls xs) 109 (p1, lL k, [.int v], (am_sh, I, J)) = (am_ev (am_tbl Ls xs) km (0, am, [], (am_sh, I, J))).bind (am_k (am_tbl Ls xs) 109 p2 (lL k) [.int v]))
    (h2 : ∀ v I J, am_ev (am_tbl Ls xs) 109 (p2, lL k, [.int v, .int v], (am_sh, I, J)) = am_ev (am_tbl Ls xs) 109 (1060, lL k, [], (am_sh, I, J))) :
    ∃ I' J', (am_ev (am_tbl Ls xs) kx (0, ax, [], (am_sh, I, J))).bind (am_k (am_tbl Ls xs) 109 p1 (lL k) []) = am_ev (am_tbl Ls xs) 109 (18, lL (k + 5), [], (am_sh, I', J')) ∧ Inv I' J' := by
  obtain ⟨v, I1, J1, I2, J2, e1, e2, H⟩ := S
  refine ⟨I2, J2, ?_, H⟩
  rw [e1, Option.bind_some, am_k_v, h1, e2, Option.bind_some, am_k_v, h2, b_L_law_1060]
  rw [show nI k + Int32.ofInt 5 = nI (k + 5) from nI_add k 5]
theorem lw_step (H : Inv I J) (hL : Ls ≤ 2560) (hk : k + 5 ≤ Ls) : ∃ I' J', am_ev (am_tbl Ls xs) 109 (18, lL k, [], (am_sh, I, J)) = am_ev (am_tbl Ls xs) 109 (18, lL (k + 5), [], (am_sh, I', J')) ∧ Inv I' J' := by
  have g0 : ¬ (nI k < 0 ∨ Ls ≤ Int32.toNatClampNeg (nI k)) := i_in (by omega) (by omega)
  have g1 : ¬ (nI k + 1 < 0 ∨ Ls ≤ Int32.toNatClampNeg (nI k + 1)) := by rw [show nI k + 1 = nI (k + 1) from nI_add k 1]; exact i_in (by omega) (by omega)
  have g2 : ¬ (nI k + 2 < 0 ∨ Ls ≤ Int32.toNatClampNeg (nI k + 2)) := by rw [show nI k + 2 = nI (k + 2) from nI_add k 2]; exact i_in (by omega) (by omega)
  have g3 : ¬ (nI k + 3 < 0 ∨ Ls ≤ Int32.toNatClampNeg (nI k + 3)) := by rw [show nI k + 3 = nI (k + 3) from nI_add k 3]; exact i_in (by omega) (by omega)
  have g4 : ¬ (nI k + 4 < 0 ∨ Ls ≤ Int32.toNatClampNeg (nI k + 4)) := by rw [show nI k + 4 = nI (k + 4) from nI_add k 4]; exact i_in (by omega) (by omega)
  have hlt : ¬ (Int32.ofNat Ls - 5 < nI k) := by
    show ¬ (nI Ls - nI 5 < nI k)
    rw [pk_sub (show 5 ≤ Ls by omega)]
    exact nI_nlt (by omega) (by omega)
  rw [b_L_law_18, if_neg hlt, if_pos g0]
  generalize xs (Int32.toNatClampNeg (nI k)) &&& 31 = op
  by_cases c0 : op = 0
  · rw [if_pos c0, if_pos g1, if_pos g2, if_pos g3]
    exact lw_of (pu_feed H (xs (Int32.toNatClampNeg (nI k + 1))) (((Int32.toInt64 (xs (Int32.toNatClampNeg (nI k + 2)))) <<< (Int32.toInt64 32 &&& 63)) ||| ((Int32.toInt64 (xs (Int32.toNatClampNeg (nI k + 3)))) &&& 4294967295))) (fun v I J => by rw [b_L_law_189, if_pos g1, if_pos g2, if_pos g3]) (fun v I J => by rw [b_L_law_218, if_pos rfl])
  rw [if_neg c0]
  by_cases c1 : op = 1
  · rw [if_pos c1]
    exact lw_of (pu_ground H) (fun v I J => by rw [b_L_law_227]) (fun v I J => by rw [b_L_law_231, if_pos rfl])
  rw [if_neg c1]
  by_cases c2 : op = 2
  · rw [if_pos c2]
    exact lw_of (pu_fault H) (fun v I J => by rw [b_L_law_240]) (fun v I J => by rw [b_L_law_244, if_pos rfl])
  rw [if_neg c2]
  by_cases c3 : op = 3
  · rw [if_pos c3, if_pos g1]
    exact lw_of (pu_told H (xs (Int32.toNatClampNeg (nI k + 1)))) (fun v I J => by rw [b_L_law_258, if_pos g1]) (fun v I J => by rw [b_L_law_267, if_pos rfl])
  rw [if_neg c3]
  by_cases c4 : op = 4
  · rw [if_pos c4, if_pos g1, if_pos g2, if_pos g3, if_pos g4]
    exact lw_of (pu_cell H (xs (Int32.toNatClampNeg (nI k + 1))) (xs (Int32.toNatClampNeg (nI k + 2))) (xs (Int32.toNatClampNeg (nI k + 3))) (xs (Int32.toNatClampNeg (nI k + 4)))) (fun v I J => by rw [b_L_law_296, if_pos g1, if_pos g2, if_pos g3, if_pos g4]) (fun v I J => by rw [b_L_law_320, if_pos rfl])
  rw [if_neg c4]
  by_cases c5 : op = 5
  · rw [if_pos c5, if_pos g1, if_pos g2]
    exact lw_of (pu_person H (xs (Int32.toNatClampNeg (nI k + 1))) (xs (Int32.toNatClampNeg (nI k + 2)))) (fun v I J => by rw [b_L_law_339, if_pos g1, if_pos g2]) (fun v I J => by rw [b_L_law_353, if_pos rfl])
  rw [if_neg c5]
  by_cases c6 : op = 6
  · rw [if_pos c6, if_pos g1, if_pos g2]
    exact lw_of (pu_owed H (xs (Int32.toNatClampNeg (nI k + 1))) (xs (Int32.toNatClampNeg (nI k + 2)))) (fun v I J => by rw [b_L_law_372, if_pos g1, if_pos g2]) (fun v I J => by rw [b_L_law_386, if_pos rfl])
  rw [if_neg c6]
  by_cases c7 : op = 7
  · rw [if_pos c7, if_pos g1, if_pos g2, if_pos g3]
    exact lw_of (pu_go H (xs (Int32.toNatClampNeg (nI k + 1))) (xs (Int32.toNatClampNeg (nI k + 2))) (xs (Int32.toNatClampNeg (nI k + 3)))) (fun v I J => by rw [b_L_law_410, if_pos g1, if_pos g2, if_pos g3]) (fun v I J => by rw [b_L_law_429, if_pos rfl])
  rw [if_neg c7]
  by_cases c8 : op = 8
  · rw [if_pos c8, if_pos g1, if_pos g2]
    have fin : ∀ z, (z = 0 ∨ z = 1) → (z = if xs (Int32.toNatClampNeg (nI k + 2)) = 0 then 0 else 1) → ∃ I' J', am_ev (am_tbl Ls xs) 109 (453, lL k, [.int z, .int (xs (Int32.toNatClampNeg (nI k + 1))), .ref 0], (am_sh, I, J)) = am_ev (am_tbl Ls xs) 109 (18, lL (k + 5), [], (am_sh, I', J')) ∧ Inv I' J' := fun z hz hz2 => by
      obtain ⟨I', J', e, H'⟩ := lw_of (k := k) (p1 := 456) (p2 := 478) (pu_fold (Ls := Ls) (xs := xs) H (xs (Int32.toNatClampNeg (nI k + 1))) z hz) (fun v I J => by
        rw [b_L_law_456, if_pos g1, if_pos g2]
        by_cases w : xs (Int32.toNatClampNeg (nI k + 2)) = 0
        · rw [if_pos w] at hz2
          rw [if_pos w, b_L_law_475, hz2]
        · rw [if_neg w] at hz2
          rw [if_neg w, b_L_law_475, hz2]) (fun v I J => by rw [b_L_law_478, if_pos rfl])
      exact ⟨I', J', (b_L_law_453 _ _ _ _ _).trans e, H'⟩
    by_cases w : xs (Int32.toNatClampNeg (nI k + 2)) = 0
    · rw [if_pos w]; exact fin 0 (Or.inl rfl) (by rw [if_pos w])
    · rw [if_neg w]; exact fin 1 (Or.inr rfl) (by rw [if_neg w])
  rw [if_neg c8]
  by_cases c9 : op = 9
  · rw [if_pos c9, if_pos g1]
    exact lw_of (pu_law H (xs (Int32.toNatClampNeg (nI k + 1)))) (fun v I J => by rw [b_L_law_492, if_pos g1]) (fun v I J => by rw [b_L_law_501, if_pos rfl])
  rw [if_neg c9]
  by_cases c10 : op = 10
  · rw [if_pos c10, if_pos g1, if_pos g2, if_pos g3]
    exact lw_of (pu_build H (xs (Int32.toNatClampNeg (nI k + 1))) (xs (Int32.toNatClampNeg (nI k + 2))) (xs (Int32.toNatClampNeg (nI k + 3)))) (fun v I J => by rw [b_L_law_525, if_pos g1, if_pos g2, if_pos g3]) (fun v I J => by rw [b_L_law_544, if_pos rfl])
  rw [if_neg c10]
  by_cases c11 : op = 11
  · rw [if_pos c11, if_pos g1]
    exact lw_of (pu_day H (xs (Int32.toNatClampNeg (nI k + 1)))) (fun v I J => by rw [b_L_law_558, if_pos g1]) (fun v I J => by rw [b_L_law_567, if_pos rfl])
  rw [if_neg c11]
  by_cases c12 : op = 12
  · rw [if_pos c12, if_pos g1, if_pos g2]
    exact lw_of (pu_best H (xs (Int32.toNatClampNeg (nI k + 1))) (xs (Int32.toNatClampNeg (nI k + 2)))) (fun v I J => by rw [b_L_law_586, if_pos g1, if_pos g2]) (fun v I J => by rw [b_L_law_600, if_pos rfl])
  rw [if_neg c12]
  by_cases c13 : op = 13
  · rw [if_pos c13, if_pos g1, if_pos g2, if_pos g3, if_pos g4]
    exact lw_of (pu_errand H (xs (Int32.toNatClampNeg (nI k + 1))) (xs (Int32.toNatClampNeg (nI k + 2))) (xs (Int32.toNatClampNeg (nI k + 3))) (xs (Int32.toNatClampNeg (nI k + 4)))) (fun v I J => by rw [b_L_law_629, if_pos g1, if_pos g2, if_pos g3, if_pos g4]) (fun v I J => by rw [b_L_law_653, if_pos rfl])
  rw [if_neg c13]
  by_cases c14 : op = 14
  · rw [if_pos c14, if_pos g1, if_pos g2]
    exact lw_of (pu_walk H (xs (Int32.toNatClampNeg (nI k + 1))) (xs (Int32.toNatClampNeg (nI k + 2)))) (fun v I J => by rw [b_L_law_672, if_pos g1, if_pos g2]) (fun v I J => by rw [b_L_law_686, if_pos rfl])
  rw [if_neg c14]
  by_cases c15 : op = 15
  · rw [if_pos c15, if_pos g1, if_pos g2]
    exact lw_of (pu_couple H (xs (Int32.toNatClampNeg (nI k + 1))) (xs (Int32.toNatClampNeg (nI k + 2)))) (fun v I J => by rw [b_L_law_705, if_pos g1, if_pos g2]) (fun v I J => by rw [b_L_law_719, if_pos rfl])
  rw [if_neg c15]
  by_cases c16 : op = 16
  · rw [if_pos c16, if_pos g1]
    exact lw_of (pu_couples H (xs (Int32.toNatClampNeg (nI k + 1)))) (fun v I J => by rw [b_L_law_733, if_pos g1]) (fun v I J => by rw [b_L_law_742, if_pos rfl])
  rw [if_neg c16]
  by_cases c17 : op = 17
  · rw [if_pos c17, if_pos g1, if_pos g2, if_pos g3]
    exact lw_of (pu_wall H (xs (Int32.toNatClampNeg (nI k + 1))) (xs (Int32.toNatClampNeg (nI k + 2))) (xs (Int32.toNatClampNeg (nI k + 3)))) (fun v I J => by rw [b_L_law_766, if_pos g1, if_pos g2, if_pos g3]) (fun v I J => by rw [b_L_law_785, if_pos rfl])
  rw [if_neg c17]
  by_cases c18 : op = 18
  · rw [if_pos c18, if_pos g1, if_pos g2, if_pos g3]
    exact lw_of (pu_bestWall H (xs (Int32.toNatClampNeg (nI k + 1))) (xs (Int32.toNatClampNeg (nI k + 2))) (xs (Int32.toNatClampNeg (nI k + 3)))) (fun v I J => by rw [b_L_law_809, if_pos g1, if_pos g2, if_pos g3]) (fun v I J => by rw [b_L_law_828, if_pos rfl])
  rw [if_neg c18]
  by_cases c19 : op = 19
  · rw [if_pos c19, if_pos g1]
    exact lw_of (pu_richest H (xs (Int32.toNatClampNeg (nI k + 1)))) (fun v I J => by rw [b_L_law_842, if_pos g1]) (fun v I J => by rw [b_L_law_851, if_pos rfl])
  rw [if_neg c19]
  by_cases c20 : op = 20
  · rw [if_pos c20, if_pos g1, if_pos g2]
    exact lw_of (pu_tell H (xs (Int32.toNatClampNeg (nI k + 1))) (xs (Int32.toNatClampNeg (nI k + 2)))) (fun v I J => by rw [b_L_law_870, if_pos g1, if_pos g2]) (fun v I J => by rw [b_L_law_884, if_pos rfl])
  rw [if_neg c20]
  by_cases c21 : op = 21
  · rw [if_pos c21, if_pos g1, if_pos g2]
    exact lw_of (pu_stood H (xs (Int32.toNatClampNeg (nI k + 1))) (xs (Int32.toNatClampNeg (nI k + 2)))) (fun v I J => by rw [b_L_law_903, if_pos g1, if_pos g2]) (fun v I J => by rw [b_L_law_917, if_pos rfl])
  rw [if_neg c21]
  by_cases c22 : op = 22
  · rw [if_pos c22, if_pos g1, if_pos g2, if_pos g3]
    exact lw_of (pu_write H (xs (Int32.toNatClampNeg (nI k + 1))) (xs (Int32.toNatClampNeg (nI k + 2))) (xs (Int32.toNatClampNeg (nI k + 3)))) (fun v I J => by rw [b_L_law_941, if_pos g1, if_pos g2, if_pos g3]) (fun v I J => by rw [b_L_law_960, if_pos rfl])
  rw [if_neg c22]
  by_cases c23 : op = 23
  · rw [if_pos c23]
    exact lw_of (pu_tear H) (fun v I J => by rw [b_L_law_969]) (fun v I J => by rw [b_L_law_973, if_pos rfl])
  rw [if_neg c23]
  by_cases c24 : op = 24
  · rw [if_pos c24]
    exact lw_of (pu_judge H) (fun v I J => by rw [b_L_law_982]) (fun v I J => by rw [b_L_law_986, if_pos rfl])
  rw [if_neg c24]
  by_cases c25 : op = 25
  · rw [if_pos c25, if_pos g1]
    exact lw_of (pu_seed H (xs (Int32.toNatClampNeg (nI k + 1)))) (fun v I J => by rw [b_L_law_1000, if_pos g1]) (fun v I J => by rw [b_L_law_1009, if_pos rfl])
  rw [if_neg c25]
  by_cases c26 : op = 26
  · rw [if_pos c26, if_pos g1]
    exact lw_of (pu_keep H (xs (Int32.toNatClampNeg (nI k + 1)))) (fun v I J => by rw [b_L_law_1023, if_pos g1]) (fun v I J => by rw [b_L_law_1032, if_pos rfl])
  rw [if_neg c26]
  by_cases c27 : op = 27
  · rw [if_pos c27, if_pos g1]
    exact lw_of (pu_goBack H (xs (Int32.toNatClampNeg (nI k + 1)))) (fun v I J => by rw [b_L_law_1046, if_pos g1]) (fun v I J => by rw [b_L_law_1055, if_pos rfl])
  rw [if_neg c27]
  refine ⟨I, J, ?_, H⟩
  rw [b_L_law_1060, show nI k + Int32.ofInt 5 = nI (k + 5) from nI_add k 5]
theorem lw_loop (hL : Ls ≤ 2560) : ∀ d k I J, Ls - k ≤ d → k ≤ Ls + 5 → Inv I J → ∃ I' J', am_ev (am_tbl Ls xs) 109 (18, lL k, [], (am_sh, I, J)) = some (some (.int 1), (am_sh, I', J')) := by
  intro d
  induction d with
  | zero =>
    intro k I J hd hk H
    refine ⟨I, J, ?_⟩
    rw [b_L_law_18, if_pos ?_]
    show nI Ls - nI 5 < nI k
    rw [i_ltN, pk_sub_toInt (by omega) (by omega), nI_toInt (by omega)]; omega
  | succ d ih =>
    intro k I J hd hk H
    by_cases c : k + 5 ≤ Ls
    · obtain ⟨I', J', e, H'⟩ := lw_step (xs := xs) H hL c
      obtain ⟨I2, J2, e2⟩ := ih (k + 5) I' J' (by omega) (by omega) H'
      exact ⟨I2, J2, e.trans e2⟩
    · refine ⟨I, J, ?_⟩
      rw [b_L_law_18, if_pos ?_]
      show nI Ls - nI 5 < nI k
      rw [i_ltN, pk_sub_toInt (by omega) (by omega), nI_toInt (by omega)]; omega
end
/-- on every script the loop comes to its end with 1 -/
theorem am_pure (L : Nat) (hL : L ≤ 2560) (xs : Nat → Int32) : ∃ (I : Nat → Nat → Int32) (J : Nat → Nat → Int64), am_ev (am_tbl L xs) 109 (18, [(0, .ref 1000100), (1, .ref 0), (2, .ref 81), (3, .int 0)], [], (am_sh, am_I0, fun _ _ => 0)) = some (some (.int 1), (am_sh, I, J)) :=
  lw_loop hL L 0 am_I0 (fun _ _ => 0) (by omega) (by omega) inv_0
