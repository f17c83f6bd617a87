/-! A NEW GROUND: the class -/
section
variable {Ls : Nat} {xs : Nat → Int32} {g : Vg} {r : Vr} {hs gr : Nat} {I I' I'' : Nat → Nat → Int32} {J J' : Nat → Nat → Int64}
theorem sx_copy : ∃ I', am_ev (am_tbl Ls xs) 128 (0, [(0, .ref 18), (1, .ref 3)], [], (am_sh, I, J)) = some (none, (am_sh, I', J)) ∧ (∀ q j, (q < 18 ∨ 32 < q) → I' q j = I q j) ∧ (∀ j, j ≤ 5 → I' 18 j = I 3 j) ∧ (∀ h, h < 6 → I' 26 h = I 11 h ∧ I' 27 h = I 12 h ∧ ∀ c, c < 48 → I' (20 + h) c = I (5 + h) c) ∧ (∀ p, p < 6 → I' 28 p = I 13 p ∧ I' 29 p = I 14 p) ∧ (∀ c, c < 48 → I' 30 c = I 15 c ∧ I' 31 c = I 16 c ∧ I' 32 c = I 17 c) := by
  obtain ⟨I1, hI1⟩ : ∃ z, z = am_up2 (am_up2 (am_up2 (am_up2 (am_up2 (am_up2 I 18 0 (I 3 0)) 18 1 (I 3 1)) 18 2 (I 3 2)) 18 3 (I 3 3)) 18 4 (I 3 4)) 18 5 (I 3 5) := ⟨_, rfl⟩
  have F1 : ∀ q j, q ≠ 18 → I1 q j = I q j := fun q j h => by
    rw [hI1, up_ne (by omega), up_ne (by omega), up_ne (by omega), up_ne (by omega), up_ne (by omega), up_ne (by omega)]
  have G1 : ∀ j, j ≤ 5 → I1 18 j = I 3 j := fun j h => by
    rw [hI1]
    have : j = 0 ∨ j = 1 ∨ j = 2 ∨ j = 3 ∨ j = 4 ∨ j = 5 := by omega
    rcases this with e | e | e | e | e | e <;> subst e <;> simp (disch := omega) only [up_ne, up_eq]
  obtain ⟨I2, ⟨F2, P2⟩, e2⟩ := lpe (N := 6) (f := fun h I' => am_ev (am_tbl Ls xs) 128 (50, [(0, .ref 18), (1, .ref 3), (2, .int (nI h))], [], (am_sh, I', J))) (V := fun h I' => (∀ q j, (q < 20 ∨ 27 < q) → I' q j = I1 q j) ∧ ∀ h', h' < h → I' 26 h' = I 11 h' ∧ I' 27 h' = I 12 h' ∧ ∀ c, c < 48 → I' (20 + h') c = I (5 + h') c) (by
    intro h I2 hh ⟨F2, P2⟩
    obtain ⟨I3, hI3⟩ : ∃ z, z = am_up2 (am_up2 I2 26 h (I 11 h)) 27 h (I 12 h) := ⟨_, rfl⟩
    obtain ⟨I4, ⟨F4, P4⟩, e4⟩ := lpe (N := 48) (f := fun c I' => am_ev (am_tbl Ls xs) 128 (82, [(0, .ref 18), (1, .ref 3), (2, .int (nI h)), (3, .int (nI c))], [], (am_sh, I', J))) (V := fun c I' => (∀ q j, q ≠ 20 + h → I' q j = I3 q j) ∧ ∀ c', c' < c → I' (20 + h) c' = I (5 + h) c') (by
      intro c I4 hc ⟨F4, P4⟩
      refine ⟨am_up2 I4 (20 + h) c (I (5 + h) c), ⟨fun q j hq => ?_, fun c' hc' => ?_⟩, ?_⟩
      · rw [up_ne (by omega)]; exact F4 q j hq
      · by_cases e : c' = c
        · rw [e, up_eq]
        · rw [up_ne (by omega)]; exact P4 c' (by omega)
      · have e5 : I4 (5 + h) c = I (5 + h) c := by
          rw [F4 _ _ (by omega), hI3, up_ne (by omega), up_ne (by omega), F2 _ _ (by omega), F1 _ _ (by omega)]
        try dsimp only
        rw [b_X2_copyFrom_82, if_neg (show ¬ (48 : Int32) ≤ nI c from nI_ge (b := 48) hc (by omega)), if_pos (i_in hh (by omega)), if_pos (i_in hh (by omega)), if_pos (i_in hc (by omega)), if_pos (i_in hc (by omega)), nI_clamp (by omega), nI_clamp (by omega), e5, i_p1]) I3 ⟨fun _ _ _ => rfl, fun c hc => absurd hc (Nat.not_lt_zero c)⟩
    refine ⟨I4, ⟨fun q j hq => ?_, fun h' hh' => ?_⟩, ?_⟩
    · rw [F4 _ _ (by omega), hI3, up_ne (by omega), up_ne (by omega)]; exact F2 q j hq
    · by_cases e : h' = h
      · subst e
        exact ⟨by rw [F4 _ _ (by omega), hI3, up_ne (by omega), up_eq], by rw [F4 _ _ (by omega), hI3, up_eq], P4⟩
      · have := P2 h' (by omega)
        refine ⟨?_, ?_, fun c hc => ?_⟩
        · rw [F4 _ _ (by omega), hI3, up_ne (by omega), up_ne (by omega)]; exact this.1
        · rw [F4 _ _ (by omega), hI3, up_ne (by omega), up_ne (by omega)]; exact this.2.1
        · rw [F4 _ _ (by omega), hI3, up_ne (by omega), up_ne (by omega)]; exact this.2.2 c hc
    · have e11 : I2 11 h = I 11 h := (F2 _ _ (by omega)).trans (F1 _ _ (by omega))
      have e12 : I2 12 h = I 12 h := (F2 _ _ (by omega)).trans (F1 _ _ (by omega))
      try dsimp only at e4 ⊢
      rw [b_X2_copyFrom_50, if_neg (show ¬ (6 : Int32) ≤ nI h from nI_ge (b := 6) hh (by omega)), if_pos (i_in hh (by omega)), if_pos (i_in hh (by omega)), if_pos (i_in hh (by omega)), if_pos (i_in hh (by omega)), nI_clamp (by omega), e11, e12, ← hI3]
      refine Eq.trans e4 ?_
      rw [b_X2_copyFrom_82, if_pos (show (48 : Int32) ≤ nI 48 by decide), i_p1]) I1 ⟨fun _ _ _ => rfl, fun h hh => absurd hh (Nat.not_lt_zero h)⟩
  obtain ⟨I3, ⟨F3, P3⟩, e3⟩ := lpe (N := 6) (f := fun p I' => am_ev (am_tbl Ls xs) 128 (118, [(0, .ref 18), (1, .ref 3), (2, .int (nI p))], [], (am_sh, I', J))) (V := fun p I' => (∀ q j, (q ≠ 28 ∧ q ≠ 29) → I' q j = I2 q j) ∧ ∀ p', p' < p → I' 28 p' = I 13 p' ∧ I' 29 p' = I 14 p') (by
    intro p I3 hp ⟨F3, P3⟩
    refine ⟨am_up2 (am_up2 I3 28 p (I 13 p)) 29 p (I 14 p), ⟨fun q j hq => ?_, fun p' hp' => ?_⟩, ?_⟩
    · rw [up_ne (by omega), up_ne (by omega)]; exact F3 q j hq
    · by_cases e : p' = p
      · rw [e]
        exact ⟨by rw [up_ne (by omega), up_eq], by rw [up_eq]⟩
      · have := P3 p' (by omega)
        exact ⟨by rw [up_ne (by omega), up_ne (by omega)]; exact this.1, by rw [up_ne (by omega), up_ne (by omega)]; exact this.2⟩
    · have e13 : I3 13 p = I 13 p := (F3 _ _ (by omega)).trans ((F2 _ _ (by omega)).trans (F1 _ _ (by omega)))
      have e14 : I3 14 p = I 14 p := (F3 _ _ (by omega)).trans ((F2 _ _ (by omega)).trans (F1 _ _ (by omega)))
      try dsimp only
      rw [b_X2_copyFrom_118, if_neg (show ¬ (6 : Int32) ≤ nI p from nI_ge (b := 6) hp (by omega)), if_pos (i_in hp (by omega)), if_pos (i_in hp (by omega)), if_pos (i_in hp (by omega)), if_pos (i_in hp (by omega)), nI_clamp (by omega), e13, e14, i_p1]) I2 ⟨fun _ _ _ => rfl, fun h hh => absurd hh (Nat.not_lt_zero h)⟩
  obtain ⟨I4, ⟨F4, P4⟩, e4⟩ := lpe (N := 48) (f := fun c I' => am_ev (am_tbl Ls xs) 128 (156, [(0, .ref 18), (1, .ref 3), (2, .int (nI c))], [], (am_sh, I', J))) (V := fun c I' => (∀ q j, (q ≠ 30 ∧ q ≠ 31 ∧ q ≠ 32) → I' q j = I3 q j) ∧ ∀ c', c' < c → I' 30 c' = I 15 c' ∧ I' 31 c' = I 16 c' ∧ I' 32 c' = I 17 c') (by
    intro c I4 hc ⟨F4, P4⟩
    refine ⟨am_up2 (am_up2 (am_up2 I4 30 c (I 15 c)) 31 c (I 16 c)) 32 c (I 17 c), ⟨fun q j hq => ?_, fun c' hc' => ?_⟩, ?_⟩
    · rw [up_ne (by omega), up_ne (by omega), up_ne (by omega)]; exact F4 q j hq
    · by_cases e : c' = c
      · rw [e]
        exact ⟨by rw [up_ne (by omega), up_ne (by omega), up_eq], by rw [up_ne (by omega), up_eq], by rw [up_eq]⟩
      · have := P4 c' (by omega)
        exact ⟨by rw [up_ne (by omega), up_ne (by omega), up_ne (by omega)]; exact this.1, by rw [up_ne (by omega), up_ne (by omega), up_ne (by omega)]; exact this.2.1, by rw [up_ne (by omega), up_ne (by omega), up_ne (by omega)]; exact this.2.2⟩
    · have e15 : I4 15 c = I 15 c := (F4 _ _ (by omega)).trans ((F3 _ _ (by omega)).trans ((F2 _ _ (by omega)).trans (F1 _ _ (by omega))))
      have e16 : I4 16 c = I 16 c := (F4 _ _ (by omega)).trans ((F3 _ _ (by omega)).trans ((F2 _ _ (by omega)).trans (F1 _ _ (by omega))))
      have e17 : I4 17 c = I 17 c := (F4 _ _ (by omega)).trans ((F3 _ _ (by omega)).trans ((F2 _ _ (by omega)).trans (F1 _ _ (by omega))))
      try dsimp only
      rw [b_X2_copyFrom_156, if_neg (show ¬ (48 : Int32) ≤ nI c from nI_ge (b := 48) hc (by omega)), if_pos (i_in hc (by omega)), if_pos (i_in hc (by omega)), if_pos (i_in hc (by omega)), if_pos (i_in hc (by omega)), if_pos (i_in hc (by omega)), if_pos (i_in hc (by omega)), nI_clamp (by omega)]
      simp (disch := omega) only [up_ne, e15, e16, e17, i_p1]) I3 ⟨fun _ _ _ => rfl, fun h hh => absurd hh (Nat.not_lt_zero h)⟩
  refine ⟨I4, ?_, fun q j hq => ?_, fun j hj => ?_, fun h hh => ?_, fun p hp => ?_, P4⟩
  · rw [b_X2_copyFrom_0, ← hI1]
    refine Eq.trans e2 ?_
    try dsimp only
    rw [b_X2_copyFrom_50, if_pos (show (6 : Int32) ≤ nI 6 by decide)]
    refine Eq.trans e3 ?_
    try dsimp only
    rw [b_X2_copyFrom_118, if_pos (show (6 : Int32) ≤ nI 6 by decide)]
    refine Eq.trans e4 ?_
    try dsimp only
    rw [b_X2_copyFrom_156, if_pos (show (48 : Int32) ≤ nI 48 by decide)]
  · rw [F4 _ _ (by omega), F3 _ _ (by omega), F2 _ _ (by omega), F1 _ _ (by omega)]
  · rw [F4 _ _ (by omega), F3 _ _ (by omega), F2 _ _ (by omega)]; exact G1 j hj
  · have := P2 h hh
    refine ⟨?_, ?_, fun c hc => ?_⟩
    · rw [F4 _ _ (by omega), F3 _ _ (by omega)]; exact this.1
    · rw [F4 _ _ (by omega), F3 _ _ (by omega)]; exact this.2.1
    · rw [F4 _ _ (by omega), F3 _ _ (by omega)]; exact this.2.2 c hc
  · have := P3 p hp
    exact ⟨by rw [F4 _ _ (by omega)]; exact this.1, by rw [F4 _ _ (by omega)]; exact this.2⟩
theorem sx_begin : ∃ I', am_ev (am_tbl Ls xs) 184 (0, [(0, .ref 33), (1, .ref 18)], [], (am_sh, I, J)) = some (none, (am_sh, I', J)) ∧ (∀ q j, (q < 33 ∨ 37 < q ∨ (q = 33 ∧ j ≠ 4)) → I' q j = I q j) ∧ (∀ p, p < 6 → I' 34 p = I 28 p ∧ I' 35 p = 0 ∧ I' 36 p = 0) ∧ (∀ c, c < 48 → I' 37 c = I 30 c) ∧ I' 33 4 = 0 := by
  obtain ⟨I1, ⟨F1, P1⟩, e1⟩ := lpe (N := 6) (f := fun p I' => am_ev (am_tbl Ls xs) 184 (2, [(0, .ref 33), (1, .ref 18), (2, .int (nI p))], [], (am_sh, I', J))) (V := fun p I' => (∀ q j, (q ≠ 34 ∧ q ≠ 35 ∧ q ≠ 36) → I' q j = I q j) ∧ ∀ p', p' < p → I' 34 p' = I 28 p' ∧ I' 35 p' = 0 ∧ I' 36 p' = 0) (by
    intro p I1 hp ⟨F1, P1⟩
    refine ⟨am_up2 (am_up2 (am_up2 I1 34 p (I 28 p)) 35 p 0) 36 p 0, ⟨fun q j hq => ?_, fun p' hp' => ?_⟩, ?_⟩
    · rw [up_ne (by omega), up_ne (by omega), up_ne (by omega)]; exact F1 q j hq
    · by_cases e : p' = p
      · rw [e]
        exact ⟨by rw [up_ne (by omega), up_ne (by omega), up_eq], by rw [up_ne (by omega), up_eq], by rw [up_eq]⟩
      · have := P1 p' (by omega)
        exact ⟨by rw [up_ne (by omega), up_ne (by omega), up_ne (by omega)]; exact this.1, by rw [up_ne (by omega), up_ne (by omega), up_ne (by omega)]; exact this.2.1, by rw [up_ne (by omega), up_ne (by omega), up_ne (by omega)]; exact this.2.2⟩
    · have e28 : I1 28 p = I 28 p := F1 _ _ (by omega)
      try dsimp only
      rw [b_X6_begin_2, if_neg (show ¬ (6 : Int32) ≤ nI p from nI_ge (b := 6) hp (by omega)), if_pos (i_in hp (by omega)), if_pos (i_in hp (by omega)), if_pos (i_in hp (by omega)), if_pos (i_in hp (by omega)), nI_clamp (by omega), e28, i_p1]) I ⟨fun _ _ _ => rfl, fun h hh => absurd hh (Nat.not_lt_zero h)⟩
  obtain ⟨I2, ⟨F2, P2⟩, e2⟩ := lpe (N := 48) (f := fun c I' => am_ev (am_tbl Ls xs) 184 (42, [(0, .ref 33), (1, .ref 18), (2, .int (nI c))], [], (am_sh, I', J))) (V := fun c I' => (∀ q j, q ≠ 37 → I' q j = I1 q j) ∧ ∀ c', c' < c → I' 37 c' = I 30 c') (by
    intro c I2 hc ⟨F2, P2⟩
    refine ⟨am_up2 I2 37 c (I 30 c), ⟨fun q j hq => ?_, fun c' hc' => ?_⟩, ?_⟩
    · rw [up_ne (by omega)]; exact F2 q j hq
    · by_cases e : c' = c
      · rw [e, up_eq]
      · rw [up_ne (by omega)]; exact P2 c' (by omega)
    · have e30 : I2 30 c = I 30 c := (F2 _ _ (by omega)).trans (F1 _ _ (by omega))
      try dsimp only
      rw [b_X6_begin_42, if_neg (show ¬ (48 : Int32) ≤ nI c from nI_ge (b := 48) hc (by omega)), if_pos (i_in hc (by omega)), if_pos (i_in hc (by omega)), nI_clamp (by omega), e30, i_p1]) I1 ⟨fun _ _ _ => rfl, fun h hh => absurd hh (Nat.not_lt_zero h)⟩
  refine ⟨am_up2 I2 33 4 0, ?_, fun q j hq => ?_, fun p hp => ?_, fun c hc => ?_, up_eq⟩
  · rw [b_X6_begin_0]
    refine Eq.trans e1 ?_
    try dsimp only
    rw [b_X6_begin_2, if_pos (show (6 : Int32) ≤ nI 6 by decide)]
    refine Eq.trans e2 ?_
    try dsimp only
    rw [b_X6_begin_42, if_pos (show (48 : Int32) ≤ nI 48 by decide)]
  · rw [up_ne (by omega), F2 _ _ (by omega), F1 _ _ (by omega)]
  · have := P1 p hp
    exact ⟨by rw [up_ne (by omega), F2 _ _ (by omega)]; exact this.1, by rw [up_ne (by omega), F2 _ _ (by omega)]; exact this.2.1, by rw [up_ne (by omega), F2 _ _ (by omega)]; exact this.2.2⟩
  · rw [up_ne (by omega)]; exact P2 c hc
theorem sx_notes : am_ev (am_tbl Ls xs) 105 (0, [(0, .ref 0)], [], (am_sh, I, J)) = some (none, (am_sh, am_up2 (am_up2 (am_up2 I 49 3 0) 53 3 0) 57 3 0, J)) := by
  rw [b_X8_clearNotes_0, b_X4_clear_0, Option.bind_some, am_k_n, b_X8_clearNotes_7, b_X4_clear_0_2, Option.bind_some, am_k_n, b_X8_clearNotes_14, b_X4_clear_0_3, Option.bind_some, am_k_n, b_X8_clearNotes_21]
theorem sx_clear : am_ev (am_tbl Ls xs) 127 (0, [(0, .ref 3)], [], (am_sh, I, J)) = some (none, (am_sh, wri (am_up2 (am_up2 (am_up2 (am_up2 (am_up2 (am_up2 I 3 0 0) 3 1 0) 3 2 0) 3 3 0) 3 4 0) 3 5 0) 15 48 (fun _ => 0), J)) := by
  rw [b_X2_clear_0]
  generalize am_up2 (am_up2 (am_up2 (am_up2 (am_up2 (am_up2 I 3 0 0) 3 1 0) 3 2 0) 3 3 0) 3 4 0) 3 5 0 = Y
  refine Eq.trans ?_ ((lp (N := 48) (f := fun c => am_ev (am_tbl Ls xs) 127 (32, [(0, .ref 3), (1, .int (nI c))], [], (am_sh, wri Y 15 c (fun _ => 0), J))) ?_).trans ?_)
  · try dsimp only
    first | (rw [wr_0]; rfl) | rw [wr_0]
  · intro c hc
    have e : am_up2 (wri Y 15 c (fun _ => 0)) 15 c 0 = wri Y 15 (c + 1) (fun _ => 0) := wr_s (f := fun _ => 0)
    try dsimp only
    rw [b_X2_clear_32, if_neg (show ¬ (48 : Int32) ≤ nI c from nI_ge (b := 48) hc (by omega)), if_pos (i_in hc (by omega)), nI_clamp (by omega), e, i_p1]
  · try dsimp only
    rw [b_X2_clear_32, if_pos (show (48 : Int32) ≤ nI 48 by decide)]
end
